/-! ===== the reference's side: what its methods do to the store ===== -/
theorem lpF_mono {α : Type} {f g : Int → α → α} (h : ∀ i a, f i a = g i a) : ∀ (k : Nat) (i : Int) (a : α), lpF f k i a = lpF g k i a
  | 0, _, _ => rfl
  | k + 1, i, a => by
    show lpF f k (i + 1) (f i a) = lpF g k (i + 1) (g i a)
    rw [h, lpF_mono h k]
/-- the last figure that has the star -/
def laQ (n e o : Int → Int) (z : Int) : Int → Int → Int := fun f a => if hsB n e o f z = true then f else a
def laI (nf : Int) (n e o : Int → Int) (z : Int) : Int := lpF (laQ n e o z) nf.toNat 0 (-1)
theorem laF_b {n e o : Int → Int} {z : Int} : ∀ (k : Nat) (i a : Int), 0 ≤ i → -1 ≤ a → a < i → -1 ≤ lpF (laQ n e o z) k i a ∧ lpF (laQ n e o z) k i a < i + k
  | 0, i, a, h0, h1, h2 => by show -1 ≤ a ∧ a < i + ((0 : Nat) : Int); omega
  | k + 1, i, a, h0, h1, h2 => by
    have hq : -1 ≤ laQ n e o z i a ∧ laQ n e o z i a < i + 1 := by unfold laQ; split <;> omega
    have := laF_b (n := n) (e := e) (o := o) (z := z) k (i + 1) (laQ n e o z i a) (by omega) hq.1 hq.2
    show -1 ≤ lpF (laQ n e o z) k (i + 1) (laQ n e o z i a) ∧ lpF (laQ n e o z) k (i + 1) (laQ n e o z i a) < i + ((k + 1 : Nat) : Int)
    omega
theorem laI_b {nf : Int} {n e o : Int → Int} {z : Int} (h : 0 ≤ nf) : -1 ≤ laI nf n e o z ∧ laI nf n e o z < nf ∨ nf = 0 ∧ laI nf n e o z = -1 := by
  have := laF_b (n := n) (e := e) (o := o) (z := z) nf.toNat 0 (-1) (by omega) (by omega) (by omega)
  unfold laI
  omega
/-- rows of five, the earliest first; a full book loses its first row -/
def shI (i : Int) (F : Int → Int) : Int → Int := fun b => if 0 ≤ b ∧ b < i then F (b + 5) else F b
theorem shI_0 (F : Int → Int) : shI 0 F = F := by funext b; unfold shI; rw [if_neg (by omega)]
theorem shI_s {i : Int} (F : Int → Int) (h : 0 ≤ i) : ud (shI i F) i (shI i F (i + 5)) = shI (i + 1) F := by
  funext b; unfold ud shI
  by_cases h1 : b = i
  · subst h1; rw [if_pos rfl, if_neg (by omega), if_pos (by omega)]
  · rw [if_neg h1]
    by_cases h2 : 0 ≤ b ∧ b < i
    · rw [if_pos h2, if_pos (by omega)]
    · rw [if_neg h2, if_neg (by omega)]
def ntT (S : gSt) : gSt := sA (st S 23 13 (if S 23 13 = 30 then 29 else S 23 13)) 32 (if S 23 13 = 30 then shI 145 (S 32) else S 32)
theorem st_id (S : gSt) (k : Nat) (j : Int) : st S k j (S k j) = S := by
  rw [st_sA, show ud (S k) j (S k j) = S k from ?_, sA_id]
  funext b; unfold ud; split
  · next h => rw [h]
  · rfl
theorem ntT_0 {S : gSt} (h : S 23 13 ≠ 30) : ntT S = S := by
  unfold ntT; rw [if_neg h, if_neg h, st_id, sA_id]
theorem ntT_1 {S : gSt} (h : S 23 13 = 30) : ntT S = sA (st S 23 13 29) 32 (shI 145 (S 32)) := by
  unfold ntT; rw [if_pos h, if_pos h]
def ntR (T : gSt) (n w a b x y : Int) : gSt := st (st (st (st (st (st T 32 (5 * n) w) 32 (5 * n + 1) a) 32 (5 * n + 2) b) 32 (5 * n + 3) x) 32 (5 * n + 4) y) 23 13 (n + 1)
def ntS (S : gSt) (w a b x y : Int) : gSt := ntR (ntT S) (if S 23 13 = 30 then 29 else S 23 13) w a b x y
theorem s2_st {S : gSt} {c1 c2 k : Nat} {F G : Int → Int} {j v : Int} (h1 : k ≠ c1) (h2 : k ≠ c2) : s2 (st S k j v) c1 c2 F G = st (s2 S c1 c2 F G) k j v := by
  rw [st_sA, st_sA]
  unfold s2
  rw [sA_c h1, sA_c h2, sA_n h2, sA_n h1]
/-- votes, names -/
def vtI (V : Int → Int) (f n : Int) : Int := lpF (cnQ (fun v => decide (V (6 * f + v) = n + 1))) (6 : Int).toNat 0 0
theorem cnF_b {p : Int → Bool} : ∀ (k : Nat) (i a : Int), 0 ≤ a → 0 ≤ lpF (cnQ p) k i a ∧ lpF (cnQ p) k i a ≤ a + k
  | 0, _, a, h => by show 0 ≤ a ∧ a ≤ a + ((0 : Nat) : Int); omega
  | k + 1, i, a, h => by
    have hq : a ≤ cnQ p i a ∧ cnQ p i a ≤ a + 1 := by unfold cnQ; split <;> omega
    have := cnF_b (p := p) k (i + 1) (cnQ p i a) (by omega)
    show 0 ≤ lpF (cnQ p) k (i + 1) (cnQ p i a) ∧ lpF (cnQ p) k (i + 1) (cnQ p i a) ≤ a + ((k + 1 : Nat) : Int)
    omega
theorem vtI_b (V : Int → Int) (f n : Int) : 0 ≤ vtI V f n ∧ vtI V f n ≤ 6 := by
  have := cnF_b (p := fun v => decide (V (6 * f + v) = n + 1)) (6 : Int).toNat 0 0 (by omega)
  unfold vtI
  omega
def giS (T : Int → Int → Int) (v f : Int) : Int → gnT → gnT := fun n q => if q.1 f = -1 ∧ q.2.testBit n.toNat = false ∧ T f n = v then (ud q.1 f n, q.2 ||| 2 ^ n.toNat) else q
def giA (T : Int → Int → Int) (v : Int) : Int → gnT → gnT := fun f q => lpF (giS T v f) (10 : Int).toNat 0 q
def giB (T : Int → Int → Int) (nf : Int) : Int → gnT → gnT := fun i q => lpF (giA T (6 - i)) nf.toNat 0 q
def nmM (T : Int → Int → Int) (nf : Int) (G : Int → Int) : Int → Int := (lpF (giB T nf) (6 : Int).toNat 0 (fillA 8 (-1) G, 0)).1
theorem gi_in {T : Int → Int → Int} {nf v : Int} {q : gnT} (h : 0 < v) : lpF (giB T nf) v.toNat (6 - v) q = lpF (giB T nf) (v - 1).toNat (7 - v) (lpF (giA T v) (nf - (0 : Int)).toNat 0 q) := by
  rw [show v.toNat = (v - 1).toNat + 1 by omega]
  show lpF (giB T nf) (v - 1).toNat (6 - v + 1) (lpF (giA T (6 - (6 - v))) nf.toNat 0 q) = _
  rw [show 6 - v + 1 = 7 - v by omega, show 6 - (6 - v) = v by omega, Int.sub_zero]
def gvM (S : gSt) : gSt := sA S 30 (nmM (vtI (S 29)) (S 23 7) (S 30))
def gvJ (S : gSt) (b : Bool) : gSt := sA S 30 (if b = true then nmM (vtI (S 29)) (S 23 7) (S 30) else S 30)
theorem gvJ_0 (S : gSt) : gvJ S false = S := sA_id S 30
theorem gvJ_1 (S : gSt) : gvJ S true = gvM S := rfl
def lwM (n e o a u : Int → Int) (f lat t : Int) : Int := lpF (loQ (hgA a u lat t) e o) (n f).toNat (10 * f) (if n f = 0 then -2000 else 2000)
theorem lwM_b (n e o a u : Int → Int) (f lat t : Int) : -3000 ≤ lwM n e o a u f lat t ∧ lwM n e o a u f lat t ≤ 3000 := by
  unfold lwM
  refine loF_b (fun z => hg_b _ _ _) _ _ _ ?_
  split <;> omega
def upM (n e o a u : Int → Int) (f lat t : Int) : Bool := decide (0 < lwM n e o a u f lat t)
def suM (S : gSt) (i : Int) : Bool := upM (S 28) (S 26) (S 27) (S 24) (S 25) (S 31 (5 * i)) (S 31 (5 * i + 1)) (15 * S 31 (5 * i + 3) + S 31 (5 * i + 2))
def swM (S : gSt) (i : Int) : Bool := !(suM S i && decide (nmM (vtI (S 29)) (S 23 7) (S 30) (S 31 (5 * i)) = S 31 (5 * i + 4)))
/-- which side, crossing -/
def siI (a u : Int → Int) (p q r : Int) : Int := if (u q - u p) * (a r - a p) < (a q - a p) * (u r - u p) then 1 else if (a q - a p) * (u r - u p) < (u q - u p) * (a r - a p) then -1 else 0
theorem siI_b (a u : Int → Int) (p q r : Int) : -1 ≤ siI a u p q r ∧ siI a u p q r ≤ 1 := by unfold siI; split <;> (try split) <;> omega
def crM (a u e o : Int → Int) (i j : Int) : Bool := !(decide (e i = e j) || (decide (e i = o j) || (decide (o i = e j) || decide (o i = o j)))) && ((spB (a (e i)) (a (o i)) (a (e j)) (a (o j)) && spB (u (e i)) (u (o i)) (u (e j)) (u (o j))) && (decide (siI a u (e i) (o i) (e j) * siI a u (e i) (o i) (o j) ≤ 0) && decide (siI a u (e j) (o j) (e i) * siI a u (e j) (o j) (o i) ≤ 0)))
def cmN (a u e o : Int → Int) (f q k : Int) : Int → Int → Int := cnQ (fun j => (decide (f ≠ q) || decide (k < j)) && crM a u e o k j)
def cmF (nq : Int) (a u e o : Int → Int) (f q : Int) : Int → Int → Int := fun k b => lpF (cmN a u e o f q k) nq.toNat (10 * q) b
def cmI (n e o a u : Int → Int) (f q : Int) : Int := lpF (cmF (n q) a u e o f q) (n f).toNat (10 * f) 0
theorem p1 {p : Prop} [Decidable p] (h : (if p then (1 : Int) else 0) ≠ 0) : p := by
  by_cases hp : p
  · exact hp
  · rw [if_neg hp] at h; exact absurd rfl h
