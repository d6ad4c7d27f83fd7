/-! ===== the state that the nines make: stars and figures, nothing else ===== -/
def Fr (S : gSt) (n m : Int) : Prop := S 1 0 = n ∧ S 4 0 = m ∧ (0 ≤ n ∧ n ≤ 24) ∧ (0 ≤ m ∧ m ≤ 8) ∧ (∀ f : Int, S 5 f = 0) ∧ okC (S 2) (S 3) ∧ (∀ j : Int, 0 ≤ j → j < 8 → S 11 j = -1) ∧ (∀ j : Int, S 10 j = 0) ∧ S 12 0 = 0 ∧ S 17 1 = 0 ∧ (0 ≤ S 17 0 ∧ S 17 0 < 30) ∧ okP (S 13) (S 14) (S 15) (S 16)
theorem fdF_no {p : Int → Bool} (h : ∀ i, p i = false) : ∀ (k : Nat) (i : Int), fdF p k i = -1
  | 0, _ => rfl
  | k + 1, i => by
    show (if p i = true then i else fdF p k (i + 1)) = -1
    rw [if_neg (by rw [h i]; decide)]
    exact fdF_no h k (i + 1)
section FR
variable {S : gSt} {n m : Int}
theorem Fr.ns (F : Fr S n m) : S 1 0 = n := F.1
theorem Fr.nf (F : Fr S n m) : S 4 0 = m := F.2.1
theorem Fr.hn1 (F : Fr S n m) : 0 ≤ S 1 0 ∧ S 1 0 ≤ 24 := by rw [F.ns]; exact F.2.2.1
theorem Fr.hnf (F : Fr S n m) : 0 ≤ S 4 0 ∧ S 4 0 ≤ 8 := by rw [F.nf]; exact F.2.2.2.1
theorem Fr.li (F : Fr S n m) (f : Int) : S 5 f = 0 := F.2.2.2.2.1 f
theorem Fr.hN (F : Fr S n m) : okN (S 5) := fun f _ _ => by rw [F.li f]; omega
theorem Fr.hE (F : Fr S n m) (e : Int → Int) : okE (S 5) e := fun f k _ _ h0 h1 => by rw [F.li f] at h1; omega
theorem Fr.hC (F : Fr S n m) : okC (S 2) (S 3) := F.2.2.2.2.2.1
theorem Fr.nm (F : Fr S n m) {j : Int} (h0 : 0 ≤ j) (h1 : j < m) : S 11 j = -1 := F.2.2.2.2.2.2.1 j h0 (by have := F.2.2.2.1; omega)
theorem Fr.hG (F : Fr S n m) : okG (S 11) := fun j h0 h1 => by rw [F.2.2.2.2.2.2.1 j h0 h1]; omega
theorem Fr.vo (F : Fr S n m) (j : Int) : S 10 j = 0 := F.2.2.2.2.2.2.2.1 j
theorem Fr.sc (F : Fr S n m) : S 12 0 = 0 := F.2.2.2.2.2.2.2.2.1
theorem Fr.hsc (F : Fr S n m) : 0 ≤ S 12 0 ∧ S 12 0 ≤ 12 := by rw [F.sc]; omega
theorem Fr.kp (F : Fr S n m) : S 17 1 = 0 := F.2.2.2.2.2.2.2.2.2.1
theorem Fr.nx (F : Fr S n m) : 0 ≤ S 17 0 ∧ S 17 0 < 30 := F.2.2.2.2.2.2.2.2.2.2.1
theorem Fr.hP (F : Fr S n m) : okP (S 13) (S 14) (S 15) (S 16) := F.2.2.2.2.2.2.2.2.2.2.2
theorem Fr.ow (F : Fr S n m) (z : Int) : owI (S 4 0) (S 5) (S 6) (S 7) z = -1 := fdF_no (fun f => by unfold hsB; rw [F.li f]; rfl) _ _
theorem Fr.wr (F : Fr S n m) : wrI S = 0 := by unfold wrI; rw [F.sc]; rfl
theorem Fr.lw (F : Fr S n m) (f lat t : Int) : lwI (S 5) (S 6) (S 7) (S 2) (S 3) f lat t = 0 := by unfold lwI; rw [F.li f]; rfl
theorem Fr.up (F : Fr S n m) (f lat t : Int) : upB (S 5) (S 6) (S 7) (S 2) (S 3) f lat t = false := by unfold upB; rw [F.lw]; rfl
theorem Fr.hr (F : Fr S n m) (f lat d : Int) : ((dyN (fun h => upB (S 5) (S 6) (S 7) (S 2) (S 3) f lat (15 * h + d)) : Nat) : Int) = 0 := by
  rw [show (fun h : Int => upB (S 5) (S 6) (S 7) (S 2) (S 3) f lat (15 * h + d)) = fun _ => false from funext (fun h => F.up f lat _)]
  decide +kernel
theorem Fr.hb (F : Fr S n m) (f lat d : Int) : ((hbN (S 5) (S 6) (S 7) (S 2) (S 3) f lat d : Nat) : Int) = 0 := by unfold hbN; rw [F.li f, if_pos rfl]; rfl
theorem Fr.bh (F : Fr S n m) (f lat d : Int) : bhI (fun h => lwI (S 5) (S 6) (S 7) (S 2) (S 3) f lat (15 * h + d)) = -1 := by
  rw [show (fun h : Int => lwI (S 5) (S 6) (S 7) (S 2) (S 3) f lat (15 * h + d)) = fun _ => 0 from funext (fun h => F.lw f lat _)]
  decide +kernel
theorem Fr.cr (F : Fr S n m) (f q : Int) : crI (S 5) (S 6) (S 7) (S 2) (S 3) f q = 0 := by unfold crI; rw [F.li f]; rfl
theorem Fr.iu (F : Fr S n m) (f lat t : Int) : (if upB (S 5) (S 6) (S 7) (S 2) (S 3) f lat t = true then (1 : Int) else 0) = 0 := by rw [F.up]; rfl
theorem Fr.add (F : Fr S n m) (h : n < 24) : Fr (adS S 0 (-90)) (n + 1) m :=
  ⟨show S 1 0 + 1 = n + 1 by rw [F.ns], F.nf, ⟨by have := F.2.2.1; omega, by omega⟩, F.2.2.2.1, F.2.2.2.2.1, okC_mv (z := S 1 0) F.hC (by omega) (by omega), F.2.2.2.2.2.2.1, F.2.2.2.2.2.2.2.1, F.sc, F.kp, F.nx, F.hP⟩
theorem Fr.fig (F : Fr S n m) (h : m < 8) : Fr (st S 4 0 (S 4 0 + 1)) n (m + 1) :=
  ⟨F.ns, show S 4 0 + 1 = m + 1 by rw [F.nf], F.2.2.1, ⟨by have := F.2.2.2.1; omega, by omega⟩, F.2.2.2.2.1, F.hC, F.2.2.2.2.2.2.1, F.2.2.2.2.2.2.2.1, F.sc, F.kp, F.nx, F.hP⟩
theorem Fr.pl (F : Fr S n m) : 1000 * (adS S 0 (-90)) 2 n + (adS S 0 (-90)) 3 n + 90 = 0 := by
  have e1 : (adS S 0 (-90)) 2 n = ud (S 2) (S 1 0) 0 n := rfl
  have e2 : (adS S 0 (-90)) 3 n = ud (S 3) (S 1 0) (-90) n := rfl
  rw [e1, e2, F.ns, ud_s, ud_s]
  omega
end FR
def S0 : gSt := fun k j => if (k = 9 ∧ 0 ≤ j ∧ j < 48) ∨ (k = 11 ∧ 0 ≤ j ∧ j < 8) then -1 else 0
theorem Fr_0 : Fr S0 0 0 := by
  have z : ∀ (k : Nat) (j : Int), k ≠ 9 → k ≠ 11 → S0 k j = 0 := fun k j h9 h11 => if_neg (fun h => by rcases h with h | h; exact h9 h.1; exact h11 h.1)
  refine ⟨z _ _ (by decide) (by decide), z _ _ (by decide) (by decide), ⟨by decide, by decide⟩, ⟨by decide, by decide⟩, fun f => z _ _ (by decide) (by decide), fun i _ _ => ?_, fun j h0 h1 => if_pos (Or.inr ⟨rfl, h0, h1⟩), fun j => z _ _ (by decide) (by decide), z _ _ (by decide) (by decide), z _ _ (by decide) (by decide), ?_, fun i _ _ => ?_⟩
  · rw [z 2 i (by decide) (by decide), z 3 i (by decide) (by decide)]; omega
  · rw [z 17 0 (by decide) (by decide)]; omega
  · rw [z 13 i (by decide) (by decide), z 14 i (by decide) (by decide), z 15 i (by decide) (by decide), z 16 i (by decide) (by decide)]; omega
