/-! ===== bits: sets of small numbers as naturals ===== -/
theorem iN (n : Nat) : iI (n : Int) = nI n := (iI_nat n).symm
theorem bt_and (a b : Nat) : iI (a : Int) &&& iI (b : Int) = iI ((a &&& b : Nat) : Int) := by
  rw [iN, iN, iN]
  apply Int32.toBitVec_inj.1
  show BitVec.ofNat 32 a &&& BitVec.ofNat 32 b = BitVec.ofNat 32 (a &&& b)
  apply BitVec.eq_of_getLsbD_eq
  intro i hi
  simp [hi]
theorem bt_or (a b : Nat) : iI (a : Int) ||| iI (b : Int) = iI ((a ||| b : Nat) : Int) := by
  rw [iN, iN, iN]
  apply Int32.toBitVec_inj.1
  show BitVec.ofNat 32 a ||| BitVec.ofNat 32 b = BitVec.ofNat 32 (a ||| b)
  apply BitVec.eq_of_getLsbD_eq
  intro i hi
  simp [hi]
theorem bt_amt : ∀ n : Nat, n < 31 → ((nI n &&& 31).toBitVec.smod 32).toNat = n := by decide +kernel
theorem bt_shl {b : Int} (h0 : 0 ≤ b) (h1 : b < 31) : iI 1 <<< (iI b &&& 31) = iI ((2 ^ b.toNat : Nat) : Int) := by
  obtain ⟨n, rfl⟩ : ∃ n : Nat, b = (n : Int) := ⟨b.toNat, (Int.toNat_of_nonneg h0).symm⟩
  have hn : n < 31 := by omega
  rw [iN, iN, Int.toNat_natCast]
  have h2 : (1 : Nat) * 2 ^ n < 2 ^ 32 := by
    rw [Nat.one_mul]
    exact Nat.pow_lt_pow_right (by decide) (by omega)
  have h3 := pk_shlN (n := 1) (nI n &&& 31) n (bt_amt n hn) h2
  rw [Nat.one_mul] at h3
  exact h3
theorem bt_shr {a : Nat} (ha : a < 2 ^ 31) {b : Int} (h0 : 0 ≤ b) (h1 : b < 31) : iI (a : Int) >>> (iI b &&& 31) = iI ((a / 2 ^ b.toNat : Nat) : Int) := by
  obtain ⟨n, rfl⟩ : ∃ n : Nat, b = (n : Int) := ⟨b.toNat, (Int.toNat_of_nonneg h0).symm⟩
  have hn : n < 31 := by omega
  rw [iN, iN, iN, Int.toNat_natCast]
  exact pk_shrN ha (nI n &&& 31) n (bt_amt n hn)
theorem bt_test (k n : Nat) : k &&& 2 ^ n = 0 ↔ k.testBit n = false := by
  constructor
  · intro h
    have h1 : (k &&& 2 ^ n).testBit n = false := by rw [h]; simp
    rw [Nat.testBit_and] at h1
    simpa using h1
  · intro h
    apply Nat.eq_of_testBit_eq
    intro i
    rw [Nat.testBit_and]
    by_cases hi : n = i
    · subst hi; simp [h]
    · first | (simp [Nat.testBit_two_pow, hi]; done) | (simp [Nat.testBit_two_pow_of_ne hi]; done)
theorem bt_test2 (k n : Nat) : k / 2 ^ n % 2 = 0 ↔ k.testBit n = false := by
  rw [Nat.testBit_eq_decide_div_mod_eq]
  simp
theorem bt_and_lt {a b n : Nat} (h : b < 2 ^ n) : a &&& b < 2 ^ n := Nat.lt_of_le_of_lt Nat.and_le_right h
theorem bt_pow_lt {b : Int} {n : Nat} (h1 : b < n) : 2 ^ b.toNat < 2 ^ n ∨ n = 0 := by
  by_cases h : n = 0
  · exact Or.inr h
  · exact Or.inl (Nat.pow_lt_pow_right (by decide) (by omega))
section BT
variable {p : Program} {l : Launch} {e : Env} {R : Room} {s : State} {m : MethodId} {args : Array Value} {below : List Frame} {meth : Method} {c : Code} {H : Heap} {locs : List Loc} {cells slots : Nat} {Q : State → Prop}
variable {g : gT} {own : String} {cc : ByteArray} {nL : Nat} {S S' : gSt} {pc : Nat} {ls : Array Slot} {rest : List Value}
theorem bi_and {a b : Nat} (hx : p.tables.exec = Jvm.exec) (hb : c.code = cc) (hdg : decode cc pc = .ok (.iand, 1))
    (k : W p l e R s m args below meth c H locs cells slots Q (F0 m (pc + 1) ls (.int (iI ((a &&& b : Nat) : Int)) :: rest))) : W p l e R s m args below meth c H locs cells slots Q (F0 m pc ls (.int (iI (b : Int)) :: .int (iI (a : Int)) :: rest)) := lv_iand hx hb hdg (by rw [bt_and]; exact k)
theorem bi_or {a b : Nat} (hx : p.tables.exec = Jvm.exec) (hb : c.code = cc) (hdg : decode cc pc = .ok (.ior, 1))
    (k : W p l e R s m args below meth c H locs cells slots Q (F0 m (pc + 1) ls (.int (iI ((a ||| b : Nat) : Int)) :: rest))) : W p l e R s m args below meth c H locs cells slots Q (F0 m pc ls (.int (iI (b : Int)) :: .int (iI (a : Int)) :: rest)) := lv_ior hx hb hdg (by rw [bt_or]; exact k)
theorem bi_shl {b : Int} (hx : p.tables.exec = Jvm.exec) (hb : c.code = cc) (hdg : decode cc pc = .ok (.ishl, 1)) (h0 : 0 ≤ b) (h1 : b < 31)
    (k : W p l e R s m args below meth c H locs cells slots Q (F0 m (pc + 1) ls (.int (iI ((2 ^ b.toNat : Nat) : Int)) :: rest))) : W p l e R s m args below meth c H locs cells slots Q (F0 m pc ls (.int (iI b) :: .int (iI 1) :: rest)) := lv_ishl hx hb hdg (by rw [bt_shl h0 h1]; exact k)
theorem bi_shr {a : Nat} {b : Int} (hx : p.tables.exec = Jvm.exec) (hb : c.code = cc) (hdg : decode cc pc = .ok (.ishr, 1)) (ha : a < 2 ^ 31) (h0 : 0 ≤ b) (h1 : b < 31)
    (k : W p l e R s m args below meth c H locs cells slots Q (F0 m (pc + 1) ls (.int (iI ((a / 2 ^ b.toNat : Nat) : Int)) :: rest))) : W p l e R s m args below meth c H locs cells slots Q (F0 m pc ls (.int (iI b) :: .int (iI (a : Int)) :: rest)) := lv_ishr hx hb hdg (by rw [bt_shr ha h0 h1]; exact k)
theorem bi_alen {own : String} (C0 : Ct p s m args c g own cc nL) (hH : Hp g S s H locs) (k n : Nat) (he : (Wl g S)[k]? = some (kA g S k n)) (hdg : decode cc pc = .ok (.arraylength, 1))
    (kk : W p l e R s m args below meth c H locs cells slots Q (F0 m (pc + 1) ls (.int (iI (n : Int)) :: rest))) : W p l e R s m args below meth c H locs cells slots Q (F0 m pc ls (.ref (g.1 k) :: rest)) :=
  va_alen (v := iI (n : Int)) C0.1 C0.2.1 C0.2.2.2.2.1.k hH.1 k 0 he rfl (iI_nat n) hdg kk
end BT
/-! ===== filling, names ===== -/
def fillA (n v : Int) (F : Int → Int) : Int → Int := fun j => if 0 ≤ j ∧ j < n then v else F j
theorem fillA_0 (v : Int) (F : Int → Int) : fillA 0 v F = F := by funext j; unfold fillA; rw [if_neg (by omega)]
theorem fillA_s {i : Int} (v : Int) (F : Int → Int) (h : 0 ≤ i) : ud (fillA i v F) i v = fillA (i + 1) v F := by
  funext j; unfold ud fillA
  by_cases h1 : j = i
  · rw [if_pos h1, if_pos (by omega)]
  · rw [if_neg h1]
    by_cases h2 : 0 ≤ j ∧ j < i
    · rw [if_pos h2, if_pos (by omega)]
    · rw [if_neg h2, if_neg (by omega)]
/-- the first free name of figure f with v votes, where it has none yet -/
def gnQ (T : Int → Int) (k : Nat) (f v : Int) : Int → Bool := fun n => !k.testBit n.toNat && decide (T (f * 10 + n) = v)
def gnI (G T : Int → Int) (k : Nat) (f v : Int) : Int := if G f = -1 then fdF (gnQ T k f v) (10 : Int).toNat 0 else -1
def gnR (x : Int) : Nat := if x = -1 then 0 else 2 ^ x.toNat
def gnF (G : Int → Int) (f x : Int) : Int → Int := if x = -1 then G else ud G f x
abbrev gnT : Type := (Int → Int) × Nat
def gnA (T : Int → Int) (v : Int) : Int → gnT → gnT := fun f q => (gnF q.1 f (gnI q.1 T q.2 f v), q.2 ||| gnR (gnI q.1 T q.2 f v))
def gnB (T : Int → Int) (nf : Int) : Int → gnT → gnT := fun i q => lpF (gnA T (6 - i)) nf.toNat 0 q
def nmI (T G : Int → Int) : Int → Int := (lpF (gnB T 8) (6 : Int).toNat 0 (fillA 8 (-1) G, 0)).1
theorem gnI_b (G T : Int → Int) (k : Nat) (f v : Int) : gnI G T k f v = -1 ∨ (0 ≤ gnI G T k f v ∧ gnI G T k f v < 10) := by
  unfold gnI
  split
  · have := fdF_b (p := gnQ T k f v) (10 : Int).toNat 0 (by omega)
    omega
  · exact Or.inl rfl
theorem gnR_b (G T : Int → Int) (k : Nat) (f v : Int) : gnR (gnI G T k f v) < 1024 := by
  unfold gnR
  split
  · decide
  · have := gnI_b G T k f v
    exact Nat.lt_of_lt_of_le (Nat.pow_lt_pow_right (by decide) (show (gnI G T k f v).toNat < 10 by omega)) (by decide)
theorem or_1024 {a b : Nat} (h : a < 1024) (h2 : b < 1024) : a ||| b < 1024 := Nat.or_lt_two_pow (n := 10) h h2
def cnS (S : gSt) (f n d : Int) : gSt := if n = -1 then S else st S 10 (f * 10 + n) (S 10 (f * 10 + n) + d)
def gvS (S : gSt) : gSt := sA S 11 (nmI (S 10) (S 11))
def rpS (S : gSt) (v f n : Int) : gSt := gvS (cnS (cnS (st S 9 (v * 8 + f) n) f (S 9 (v * 8 + f)) (-1)) f n 1)
theorem cnS_10 (S : gSt) (f n d : Int) (hd : -1 ≤ d ∧ d ≤ 1) (j B : Int) (h : ∀ j, 0 ≤ j → j < 80 → -B ≤ S 10 j ∧ S 10 j ≤ B) (h0 : 0 ≤ j) (h1 : j < 80) : -(B + 1) ≤ cnS S f n d 10 j ∧ cnS S f n d 10 j ≤ B + 1 := by
  have hj := h j h0 h1
  unfold cnS
  split
  · omega
  · show _ ≤ ud (S 10) _ _ j ∧ ud (S 10) _ _ j ≤ _
    unfold ud
    split
    · next e => rw [← e]; omega
    · omega
theorem cnS_n {S : gSt} {f n d : Int} {a : Nat} (h : a ≠ 10) : cnS S f n d a = S a := by
  unfold cnS
  split
  · rfl
  · exact if_neg h
theorem gnF_b {G T : Int → Int} {k : Nat} {f v : Int} (h : ∀ j : Int, 0 ≤ j → j < 8 → -1 ≤ G j ∧ G j < 10) : ∀ j : Int, 0 ≤ j → j < 8 → -1 ≤ gnF G f (gnI G T k f v) j ∧ gnF G f (gnI G T k f v) j < 10 := by
  intro j h0 h1
  have hj := h j h0 h1
  have hb := gnI_b G T k f v
  unfold gnF
  split
  · exact hj
  · unfold ud
    split
    · omega
    · exact hj
theorem nm_in {T : Int → Int} {v : Int} {q : gnT} (h : 0 < v) : lpF (gnB T 8) v.toNat (6 - v) q = lpF (gnB T 8) (v - 1).toNat (7 - v) (lpF (gnA T v) (8 - (0 : Int)).toNat 0 q) := by
  rw [show v.toNat = (v - 1).toNat + 1 by omega]
  show lpF (gnB T 8) (v - 1).toNat (6 - v + 1) (lpF (gnA T (6 - (6 - v))) (8 : Int).toNat 0 q) = _
  rw [show 6 - v + 1 = 7 - v by omega, show 6 - (6 - v) = v by omega]
  rfl
