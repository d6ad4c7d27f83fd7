/-! ===== whole numbers: an int as the Int that it is ===== -/
def iI (z : Int) : Int32 := Int32.ofInt z
def rg (z : Int) : Prop := -2147483648 ≤ z ∧ z < 2147483648
theorem rg_iff {z : Int} : rg z ↔ -2147483648 ≤ z ∧ z < 2147483648 := Iff.rfl
theorem iI_t {z : Int} (h : rg z) : (iI z).toInt = z := Int32.toInt_ofInt_of_le (by have := h.1; omega) (by have := h.2; omega)
theorem iI_of (x : Int32) : iI x.toInt = x := Int32.ofInt_toInt x
theorem rg_t (x : Int32) : rg x.toInt := ⟨by have := x.le_toInt; omega, by have := x.toInt_lt; omega⟩
theorem iI_add (a b : Int) : iI a + iI b = iI (a + b) := (Int32.ofInt_add a b).symm
theorem iI_sub (a b : Int) : iI a - iI b = iI (a - b) := (Int32.ofInt_sub a b).symm
theorem iI_mul (a b : Int) : iI a * iI b = iI (a * b) := (Int32.ofInt_mul a b).symm
theorem iI_neg (a : Int) : -(iI a) = iI (-a) := (Int32.ofInt_neg a).symm
theorem iI_0 : (0 : Int32) = iI 0 := by decide
theorem iI_lt {a b : Int} (ha : rg a) (hb : rg b) : iI a < iI b ↔ a < b := by rw [Int32.lt_iff_toInt_lt, iI_t ha, iI_t hb]
theorem iI_le {a b : Int} (ha : rg a) (hb : rg b) : iI a ≤ iI b ↔ a ≤ b := by rw [Int32.le_iff_toInt_le, iI_t ha, iI_t hb]
theorem iI_eq {a b : Int} (ha : rg a) (hb : rg b) : iI a = iI b ↔ a = b := by rw [← Int32.toInt_inj, iI_t ha, iI_t hb]
theorem rg0 : rg 0 := ⟨by decide, by decide⟩
theorem iI_in {z : Int} {n : Nat} (h0 : 0 ≤ z) (h1 : z < n) (hn : n ≤ 100000) : vp_in (iI z) n := vp_in_iff.mpr (by rw [iI_t ⟨by omega, by omega⟩]; exact ⟨h0, h1⟩)
theorem iI_cl {z : Int} (h0 : 0 ≤ z) (h1 : z < 2147483648) : (((iI z).toNatClampNeg : Nat) : Int) = z := by
  show (((iI z).toInt.toNat : Nat) : Int) = z
  rw [iI_t ⟨by omega, h1⟩]
  exact Int.toNat_of_nonneg h0
theorem iI_nat (n : Nat) : Int32.ofNat n = iI (n : Int) := (Int32.ofInt_eq_ofNat).symm
theorem rg_min {z : Int} (h : rg z) : Int32.minValue.toInt ≤ z := by
  have e : Int32.minValue.toInt = -2147483648 := by decide
  have := h.1
  omega
theorem rg_max {z : Int} (h : rg z) : z ≤ Int32.maxValue.toInt := by
  have e : Int32.maxValue.toInt = 2147483647 := by decide
  have := h.2
  omega
theorem iI_div {a b : Int} (ha : rg a) (hb : rg b) : iI a / iI b = iI (a.tdiv b) := (Int32.ofInt_tdiv (rg_min ha) (rg_max ha) (rg_min hb) (rg_max hb)).symm
theorem iI_rem {a b : Int} (ha : rg a) (hb : rg b) : iI a - iI a / iI b * iI b = iI (a.tmod b) := by
  rw [iI_div ha hb, iI_mul, iI_sub, Int.tmod_def, Int.mul_comm]
theorem iI_nn {a : Int} (h : rg a) (h0 : a ≠ 0) : ¬ iI a = 0 := by rw [iI_0, iI_eq h rg0]; exact h0
/-! ===== the store: cell and place to number ===== -/
abbrev gSt : Type := Nat → Int → Int
def ud (f : Int → Int) (j v : Int) : Int → Int := fun b => if b = j then v else f b
def st (S : gSt) (k : Nat) (j v : Int) : gSt := fun a => if a = k then ud (S a) j v else S a
theorem ud_s (f : Int → Int) (j v : Int) : ud f j v j = v := if_pos rfl
theorem ud_n {f : Int → Int} {j v b : Int} (h : b ≠ j) : ud f j v b = f b := if_neg h
theorem upd_ud (f : Int → Int) {z x : Int} (h0 : 0 ≤ z) (h1 : z < 2147483648) : upd (fun j : Nat => iI (f j)) (iI z).toNatClampNeg (iI x) = fun j : Nat => iI (ud f z x j) := by
  funext j
  have hc := iI_cl h0 h1
  by_cases h : j = (iI z).toNatClampNeg
  · subst h
    show (if _ then _ else _) = _
    rw [if_pos rfl, hc, ud_s]
  · have h2 : (j : Int) ≠ z := by omega
    show (if _ then _ else _) = _
    rw [if_neg h, ud_n h2]
/-! ===== the good words, the words of the nest ===== -/
def GL : List Cond := lw_tbl.filter goodWord
theorem gm (i : Nat) {w : Cond} (h : lw_tbl[i]? = some w) (hg : goodWord w = true) : w ∈ GL := List.mem_filter.mpr ⟨List.mem_of_getElem? h, hg⟩
def isNest : Cond → Bool
  | .fieldLinkNest _ _ _ _ _ _ => true
  | .methodLinkNest _ _ _ _ => true
  | .castable _ _ => true
  | .declares _ => true
  | _ => false
def NL : List Cond := lw_tbl.filter isNest
theorem nmm (i : Nat) {w : Cond} (h : lw_tbl[i]? = some w) (hg : isNest w = true) : w ∈ NL := List.mem_filter.mpr ⟨List.mem_of_getElem? h, hg⟩
theorem nest_warm {w : Cond} (hg : isNest w = true) {s U : State} (hW : s.WarmedH U.vm) (h : va_Nw w s) : va_Nw w U := by
  cases w <;> first | exact va_Nw.warmF hW h | exact va_Nw.warmM hW h | exact va_Nw.warmC hW h | exact va_Nw.warmD hW h | cases hg
theorem nest_on {w : Cond} (hg : isNest w = true) : w.onTables = true := by
  cases w <;> first | rfl | cases hg
/-! ===== the world: twenty-three cells at fixed addresses ===== -/
/-- addresses of the cells, class numbers and slots, classes of int[] and long[], addresses of the texts -/
abbrev gT : Type := (Nat → Nat) × va_G × ClassId × ClassId × (Nat → Nat)
abbrev kA (g : gT) (S : gSt) (k n : Nat) : Nat × va_E := (g.1 k, .inl (g.2.2.1, n, .inl (fun j : Nat => iI (S k j))))
def Wl (g : gT) (S : gSt) : va_W := [
  (g.1 0, .inr (5, [.ref (g.1 1), .ref (g.1 4), .ref (g.1 8), .ref (g.1 12), .ref (g.1 17)])),
  (g.1 1, .inr (1, [.int (iI (S 1 0)), .ref (g.1 2), .ref (g.1 3)])), kA g S 2 24, kA g S 3 24,
  (g.1 4, .inr (4, [.int (iI (S 4 0)), .ref (g.1 5), .ref (g.1 6), .ref (g.1 7)])), kA g S 5 8, kA g S 6 80, kA g S 7 80,
  (g.1 8, .inr (0, [.ref (g.1 9), .ref (g.1 10), .ref (g.1 11)])), kA g S 9 48, kA g S 10 80, kA g S 11 8,
  (g.1 12, .inr (3, [.int (iI (S 12 0)), .ref (g.1 13), .ref (g.1 14), .ref (g.1 15), .ref (g.1 16)])), kA g S 13 12, kA g S 14 12, kA g S 15 12, kA g S 16 12,
  (g.1 17, .inr (2, [.int (iI (S 17 0)), .int (iI (S 17 1)), .ref (g.1 18), .ref (g.1 19), .ref (g.1 20), .ref (g.1 21), .ref (g.1 22)])), kA g S 18 30, kA g S 19 30, kA g S 20 30, kA g S 21 30, kA g S 22 30]
theorem Wl_ad (g : gT) (S : gSt) : (Wl g S).map (fun q => q.1) = (List.range 23).map g.1 := rfl
theorem Wl_at {g : gT} {S : gSt} {i : Nat} {q : Nat × va_E} (h : (Wl g S)[i]? = some q) : i < 23 ∧ q.1 = g.1 i := by
  have h1 : ((Wl g S).map (fun q => q.1))[i]? = some q.1 := by rw [List.getElem?_map, h]; rfl
  rw [Wl_ad, List.getElem?_map] at h1
  have hi : i < 23 := by
    by_cases hi : i < 23
    · exact hi
    · rw [List.getElem?_eq_none (by simp; omega)] at h1; cases h1
  refine ⟨hi, ?_⟩
  rw [List.getElem?_range hi] at h1
  exact (Option.some.inj h1).symm
def oA (g : gT) : Nat → Prop := fun q => ∃ k : Nat, k < 23 ∧ q = g.1 k
/-- which exception isn't another one -/
def NCL : List (String × String) := [("java/lang/IllegalStateException", "java/lang/IllegalArgumentException")]
/-- the texts of the class, warm -/
def SW (g : gT) (U : State) : Prop := ∀ (k : Nat) (tx : String), Cond.stringRef "SkyLoom" k tx ∈ lw_tbl → vk_R "SkyLoom" k tx (g.2.2.2.2 k) U
def GG (g : gT) (U : State) : Prop :=
  (∀ w ∈ GL, w.before #[] U = true) ∧ (∀ w ∈ NL, va_Nw w U) ∧ va_K g.2.1 vwCl [(g.2.2.1, .int), (g.2.2.2.1, .long)] U ∧ (∀ i j : Nat, i < 23 → j < 23 → g.1 i = g.1 j → i = j) ∧ SW g U ∧ ∀ q ∈ NCL, va_Nc q.1 q.2 U
theorem GG.w {g : gT} {s : State} {args : Array Value} {w : Cond} (h : GG g s) (hw : w ∈ GL) : w.before args s = true :=
  word_at (State.WarmedH.refl s) (good_of_word (List.mem_filter.mp hw).2) (h.1 w hw)
theorem GG.n {g : gT} {s : State} {args : Array Value} {w : Cond} (h : GG g s) (hw : w ∈ NL) : w.before args s = true :=
  va_Nw.use (nest_on (List.mem_filter.mp hw).2) (h.2.1 w hw)
theorem GG.k {g : gT} {s : State} (h : GG g s) : va_K g.2.1 vwCl [(g.2.2.1, .int), (g.2.2.2.1, .long)] s := h.2.2.1
theorem GG.moved {g : gT} {s U : State} (hW : s.WarmedH U.vm) (h : GG g s) : GG g U :=
  ⟨fun w hw => word_at hW (good_of_word (List.mem_filter.mp hw).2) (h.1 w hw), fun w hw => nest_warm (List.mem_filter.mp hw).2 hW (h.2.1 w hw), va_K.moved hW.alike h.k, h.2.2.2.1, fun k tx hk => vk_R.warm hW (h.2.2.2.2.1 k tx hk), fun q hq => va_Nc.moved hW.alike (h.2.2.2.2.2 q hq)⟩
theorem GG.dd {g : gT} {s : State} (h : GG g s) (S : gSt) : va_D (oA g) (Wl g S) :=
  ⟨fun i j p q hi hj e => h.2.2.2.1 i j (Wl_at hi).1 (Wl_at hj).1 ((Wl_at hi).2.symm.trans (e.trans (Wl_at hj).2)), fun k q hk => ⟨k, (Wl_at hk).1, (Wl_at hk).2⟩⟩
/-- the two statics of Throwable that a throw looks at -/
def ZZ (A : Nat → Prop) (U : State) (H : Heap) : Prop := vx_Zq Bundle.tN "UNASSIGNED_STACK" Bundle.steD A U H ∧ vx_Zq Bundle.tN "SUPPRESSED_SENTINEL" Bundle.listD A U H
theorem ZZ.moved {A : Nat → Prop} {u U : State} {H : Heap} (hvm : u.vm.Alike U.vm) (h : ZZ A u H) : ZZ A U H := ⟨vx_Zq.moved hvm h.1, vx_Zq.moved hvm h.2⟩
theorem ZZ.kept {A : Nat → Prop} {U : State} {H H1 : Heap} (h : ZZ A U H) (hq : ∀ a : Nat, a < H.size → ¬ A a → H1[a]? = H[a]?) : ZZ A U H1 := ⟨vx_Zq.kept h.1 hq, vx_Zq.kept h.2 hq⟩
/-! ===== contracts ===== -/
def PreG (g : gT) (av : List Value) (S : gSt) : Array Value → State → Prop := va_Pc av (fun U => GG g U ∧ ZZ (oA g) U U.heap ∧ va_P g.2.1 vwCl (Wl g S) U.heap)
def RetG (g : gT) (v : Option Value) (S' : gSt) : Array Value → State → Outcome → State → Prop := fun _ st o t => o = .returned v ∧ va_P g.2.1 vwCl (Wl g S') t.heap ∧ va_F (oA g) st t
def XG (g : gT) (S' : gSt) (E : String) : String → State → State → Prop := fun E' st t => E' = E ∧ va_P g.2.1 vwCl (Wl g S') t.heap ∧ va_F (oA g) st t
def MetG (l : Launch) (g : gT) (y : MethodName) (cc : ByteArray) (nL : Nat) (ret : Option FieldType) (fr lo : Nat) (av : List Value) (S : gSt) (v : Option Value) (S' : gSt) : Prop :=
  Met l y [.code y cc nL ret] { frames := fr, cells := 0, slots := 0, locals := lo } (PreG g av S) (RetG g v S') 0 0 (oA g)
def ThrG (l : Launch) (g : gT) (y : MethodName) (cc : ByteArray) (nL : Nat) (ret : Option FieldType) (fr lo : Nat) (av : List Value) (S : gSt) (E : String) (S' : gSt) : Prop :=
  vx_Met l y [.code y cc nL ret] { frames := fr, cells := 1, slots := 6, locals := lo } (PreG g av S) (fun _ _ _ _ => False) (XG g S' E) 1 6 (oA g)
theorem PreG.blind (g : gT) (av : List Value) (S : gSt) : FrameBlind (PreG g av S) := by
  intro a U gf mk q
  obtain ⟨q0, q1, q2, q3⟩ := q
  refine ⟨q0, GG.moved (s := U) (U := U.calling gf mk a) (State.WarmedH.refl U) q1, ZZ.moved (u := U) (U := U.calling gf mk a) (Vm.Alike.refl U.vm) q2, q3⟩
/-- what a body stands on -/
def Ct (p : Program) (s : State) (m : MethodId) (args : Array Value) (c : Code) (g : gT) (own : String) (cc : ByteArray) (nL : Nat) : Prop :=
  p.tables.exec = Jvm.exec ∧ c.code = cc ∧ c.maxLocals = nL ∧ s.vm.findClass own = some m.cls ∧ GG g s ∧ ZZ (oA g) s s.heap
/-- the heap: the world with the numbers S, nothing else changed -/
def Hp (g : gT) (S : gSt) (s : State) (H : Heap) (locs : List Loc) : Prop := va_P g.2.1 vwCl (Wl g S) H ∧ va_S (oA g) s.heap H locs
section BG
variable {l : Launch} {g : gT} {y : MethodName} {cc : ByteArray} {nL fr lo : Nat} {ret : Option FieldType} {av : List Value} {S S' : gSt} {v : Option Value} {E : String}
/-- a body opened, whatever its class's name, where no native stands in its place -/
theorem ofWF {ws ws' : List Cond} {rm : Room} {Pc : Array Value → State → Prop} {Qc : Array Value → State → Outcome → State → Prop} {mc ms : Nat} {free : Addr → Prop}
    (hy : plainFor y = true) (hw : ws = Cond.code y cc nL ret :: ws')
    (body : ∀ p e s m args below meth c s₁, BodyLoose p l y (headSpec ws rm) cc nL ret e s m args below meth c s₁ → c.maxLocals = nL → Pc args s →
      W p l e (headSpec ws rm).room s m args below meth c s.heap [] 0 0 (MQ below Qc args s mc ms free) (entryFrame m args nL)) : Met l y ws rm Pc Qc mc ms free := by
  refine MetFree.of_bodySF (code := cc) (maxLocals := nL) (ret := ret) hy ?_ ?_
  · intro args s m h hn
    obtain ⟨meth, c, h1, h2, h3, h4, h5, h6, -, -⟩ := Cond.code_spec hn (atoms_spec (ws := ws) h _ (by rw [hw]; exact List.mem_cons_self))
    exact ⟨meth, c, h1, h2, h3, h4, h5, h6⟩
  · intro p e s m args below meth c s₁ B hml hP _
    have hh0 : s₁.heap = s.heap := by rw [B.state]; rfl
    obtain ⟨t, a1, o, b1, b2, b3⟩ := body p e s m args below meth c s₁ B hml hP s₁ hh0 (Stand.of_body B)
    exact ⟨t, o, a1, b1, b2, ⟨b3.1, b3.2⟩⟩
theorem bodyG (hy : plainFor y = true) (hlen : (lg_sl av).length ≤ nL)
    (h : ∀ (p : Program) (e : Env) (s : State) (m : MethodId) (args : Array Value) (below : List Frame) (meth : Method) (c : Code) (ls : Array Slot), Ct p s m args c g y.cls cc nL → meth.sig.returnType = ret → meth.locks = false → lv_has ls nL (lv_args 0 av) → Hp g S s s.heap [] →
      W p l e { frames := fr, cells := 0, slots := 0, locals := lo } s m args below meth c s.heap [] 0 0 (MQ below (RetG g v S') args s 0 0 (oA g)) (F0 m 0 ls [])) : MetG l g y cc nL ret fr lo av S v S' := by
  refine ofWF (cc := cc) (nL := nL) (ret := ret) hy rfl ?_
  intro p e s m args below meth c s₁ B hml hv
  obtain ⟨rfl, hG, hZ, hP⟩ := hv
  have hl := lv_entry av (n := nL) hlen
  rw [lg_entry_eq]
  exact h p e s m _ below meth c _ ⟨B.exec, B.bytes, hml, findClass_of_methodNamed B.named, hG, hZ⟩ B.returns B.notSynchronized hl ⟨hP, va_S.rf⟩
theorem bodyX (hy : plainName y.cls = true) (hlen : (lg_sl av).length ≤ nL)
    (h : ∀ (p : Program) (e : Env) (s : State) (m : MethodId) (args : Array Value) (below : List Frame) (meth : Method) (c : Code) (ls : Array Slot), Ct p s m args c g y.cls cc nL → (∀ x ∈ c.exceptionTable.toList, False) → meth.locks = false → lv_has ls nL (lv_args 0 av) → Hp g S s s.heap [] →
      W p l e { frames := fr, cells := 1, slots := 6, locals := lo } s m args below meth c s.heap [] 0 0 (vx_MQ below (fun _ _ _ _ => False) (XG g S' E) args s 1 6 (oA g)) (F0 m 0 ls [])) : ThrG l g y cc nL ret fr lo av S E S' := by
  refine vx_ofW (cc := cc) (maxL := nL) (ret := ret) hy rfl ?_
  intro p e s m args below meth c s₁ B hml ht hv
  obtain ⟨rfl, hG, hZ, hP⟩ := hv
  have hl := lv_entry av (n := nL) hlen
  rw [lg_entry_eq]
  exact h p e s m _ below meth c _ ⟨B.exec, B.bytes, hml, findClass_of_methodNamed B.named, hG, hZ⟩ ht B.notSynchronized hl ⟨hP, va_S.rf⟩
end BG
section RW
variable {p : Program} {l : Launch} {e : Env} {R : Room} {s : State} {m : MethodId} {args : Array Value} {below : List Frame} {meth : Method} {c : Code} {H : Heap} {locs : List Loc} {cells slots : Nat} {Q : State → Prop}
variable {g : gT} {own : String} {cc : ByteArray} {nL : Nat} {S S' : gSt} {pc : Nat} {ls : Array Slot} {rest : List Value}
/-! returns -/
theorem retI (C : Ct p s m args c g own cc nL) (hr : meth.sig.returnType = some .int) (hk : meth.locks = false) (hH : Hp g S s H locs) {z r : Int} (hz : z = r) (hS : S = S') (hdg : decode cc pc = .ok (.ireturn, 1)) :
    W p l e R s m args below meth c H locs 0 0 (MQ below (RetG g (some (.int (iI r))) S') args s 0 0 (oA g)) (F0 m pc ls [.int (iI z)]) := by
  subst hz; subst hS
  exact W.iret C.1 C.2.1 hr (fun t ht hW => ⟨rfl, by rw [ht]; exact hH.1, hH.2.F ht⟩) hH.2.2.2 hdg hk
theorem retZ (C : Ct p s m args c g own cc nL) (hr : meth.sig.returnType = some .boolean) (hk : meth.locks = false) (hH : Hp g S s H locs) {z r : Int} (hz : z = r) (hb : z = 0 ∨ z = 1) (hS : S = S') (hdg : decode cc pc = .ok (.ireturn, 1)) :
    W p l e R s m args below meth c H locs 0 0 (MQ below (RetG g (some (.int (iI r))) S') args s 0 0 (oA g)) (F0 m pc ls [.int (iI z)]) := by
  subst hz; subst hS
  exact W.zret C.1 C.2.1 hr (by rcases hb with rfl | rfl <;> rfl) (fun t ht hW => ⟨rfl, by rw [ht]; exact hH.1, hH.2.F ht⟩) hH.2.2.2 hdg hk
theorem retV (C : Ct p s m args c g own cc nL) (hr : meth.sig.returnType = none) (hk : meth.locks = false) (hH : Hp g S s H locs) (hS : S = S') (hdg : decode cc pc = .ok (.return_, 1)) :
    W p l e R s m args below meth c H locs 0 0 (MQ below (RetG g none S') args s 0 0 (oA g)) (F0 m pc ls []) := by
  subst hS
  exact W.vret C.1 C.2.1 hr (fun t ht hW => ⟨rfl, by rw [ht]; exact hH.1, hH.2.F ht⟩) hH.2.2.2 hdg hk
/-! numbers -/
theorem bi_const (hx : p.tables.exec = Jvm.exec) (hb : c.code = cc) {n : Int} (hdg : decode cc pc = .ok (.iconst n, 1))
    (k : W p l e R s m args below meth c H locs cells slots Q (F0 m (pc + 1) ls (.int (iI n) :: rest))) : W p l e R s m args below meth c H locs cells slots Q (F0 m pc ls rest) := lv_iconst hx hb hdg rfl k
theorem bi_bip (hx : p.tables.exec = Jvm.exec) (hb : c.code = cc) {n : Int} (hdg : decode cc pc = .ok (.bipush n, 2)) (hv : (Int8.ofInt n).toInt32 = iI n)
    (k : W p l e R s m args below meth c H locs cells slots Q (F0 m (pc + 2) ls (.int (iI n) :: rest))) : W p l e R s m args below meth c H locs cells slots Q (F0 m pc ls rest) := lv_bipush hx hb hdg hv k
theorem bi_sip (hx : p.tables.exec = Jvm.exec) (hb : c.code = cc) {n : Int} (hdg : decode cc pc = .ok (.sipush n, 3)) (hv : (Int16.ofInt n).toInt32 = iI n)
    (k : W p l e R s m args below meth c H locs cells slots Q (F0 m (pc + 3) ls (.int (iI n) :: rest))) : W p l e R s m args below meth c H locs cells slots Q (F0 m pc ls rest) := lv_sipush hx hb hdg hv k
theorem bi_add (hx : p.tables.exec = Jvm.exec) (hb : c.code = cc) {a b : Int} (hdg : decode cc pc = .ok (.iadd, 1))
    (k : W p l e R s m args below meth c H locs cells slots Q (F0 m (pc + 1) ls (.int (iI (a + b)) :: rest))) : W p l e R s m args below meth c H locs cells slots Q (F0 m pc ls (.int (iI b) :: .int (iI a) :: rest)) := lv_iadd hx hb hdg (by rw [iI_add]; exact k)
theorem bi_sub (hx : p.tables.exec = Jvm.exec) (hb : c.code = cc) {a b : Int} (hdg : decode cc pc = .ok (.isub, 1))
    (k : W p l e R s m args below meth c H locs cells slots Q (F0 m (pc + 1) ls (.int (iI (a - b)) :: rest))) : W p l e R s m args below meth c H locs cells slots Q (F0 m pc ls (.int (iI b) :: .int (iI a) :: rest)) := lv_isub hx hb hdg (by rw [iI_sub]; exact k)
theorem bi_mul (hx : p.tables.exec = Jvm.exec) (hb : c.code = cc) {a b : Int} (hdg : decode cc pc = .ok (.imul, 1))
    (k : W p l e R s m args below meth c H locs cells slots Q (F0 m (pc + 1) ls (.int (iI (a * b)) :: rest))) : W p l e R s m args below meth c H locs cells slots Q (F0 m pc ls (.int (iI b) :: .int (iI a) :: rest)) := lv_imul hx hb hdg (by rw [iI_mul]; exact k)
theorem bi_neg (hx : p.tables.exec = Jvm.exec) (hb : c.code = cc) {a : Int} (hdg : decode cc pc = .ok (.ineg, 1))
    (k : W p l e R s m args below meth c H locs cells slots Q (F0 m (pc + 1) ls (.int (iI (-a)) :: rest))) : W p l e R s m args below meth c H locs cells slots Q (F0 m pc ls (.int (iI a) :: rest)) := lv_ineg hx hb hdg (by rw [iI_neg]; exact k)
theorem bi_div (hx : p.tables.exec = Jvm.exec) (hb : c.code = cc) {a b : Int} (hdg : decode cc pc = .ok (.idiv, 1)) (ha : rg a) (hbr : rg b) (h0 : b ≠ 0)
    (k : W p l e R s m args below meth c H locs cells slots Q (F0 m (pc + 1) ls (.int (iI (a.tdiv b)) :: rest))) : W p l e R s m args below meth c H locs cells slots Q (F0 m pc ls (.int (iI b) :: .int (iI a) :: rest)) := lv_idiv hx hb hdg (iI_nn hbr h0) (by rw [iI_div ha hbr]; exact k)
theorem bi_rem (hx : p.tables.exec = Jvm.exec) (hb : c.code = cc) {a b : Int} (hdg : decode cc pc = .ok (.irem, 1)) (ha : rg a) (hbr : rg b) (h0 : b ≠ 0)
    (k : W p l e R s m args below meth c H locs cells slots Q (F0 m (pc + 1) ls (.int (iI (a.tmod b)) :: rest))) : W p l e R s m args below meth c H locs cells slots Q (F0 m pc ls (.int (iI b) :: .int (iI a) :: rest)) := lv_irem hx hb hdg (iI_nn hbr h0) (by rw [iI_rem ha hbr]; exact k)
theorem bi_inc (hx : p.tables.exec = Jvm.exec) (hb : c.code = cc) {i n0 k0 : Nat} {n z : Int} {lv lv' : List (Nat × Value)} (hdg : decode cc pc = .ok (.iinc i n, 3)) (h : lv_has ls n0 lv) (hk : lv[k0]? = some (i, .int (iI z))) (hn : i < n0) (hl : (i, Value.int (iI (z + n))) :: lv.filter (fun q => !(q.1 == i) && !(q.1 + 1 == i && q.2.category == 2)) = lv')
    (kk : ∀ ls' : Array Slot, lv_has ls' n0 lv' → W p l e R s m args below meth c H locs cells slots Q (F0 m (pc + 3) ls' rest)) : W p l e R s m args below meth c H locs cells slots Q (F0 m pc ls rest) := lv_iinc (v := iI (z + n)) hx hb hdg h hk (iI_add z n) hn hl kk
/-! branches -/
theorem bq_eq (hx : p.tables.exec = Jvm.exec) (hb : c.code = cc) {a b off : Int} {tgt : Nat} (hdg : decode cc pc = .ok (.if_icmp .eq off, 3)) (ht : (pc : Int) + off = (tgt : Int)) (ra : rg a) (rb : rg b)
    (kt : a = b → W p l e R s m args below meth c H locs cells slots Q (F0 m tgt ls rest)) (kf : a ≠ b → W p l e R s m args below meth c H locs cells slots Q (F0 m (pc + 3) ls rest)) : W p l e R s m args below meth c H locs cells slots Q (F0 m pc ls (.int (iI b) :: .int (iI a) :: rest)) :=
  lv_icmp_eq hx hb hdg ht (fun h => kt ((iI_eq ra rb).mp h)) (fun h => kf (fun q => h ((iI_eq ra rb).mpr q)))
theorem bq_ne (hx : p.tables.exec = Jvm.exec) (hb : c.code = cc) {a b off : Int} {tgt : Nat} (hdg : decode cc pc = .ok (.if_icmp .ne off, 3)) (ht : (pc : Int) + off = (tgt : Int)) (ra : rg a) (rb : rg b)
    (kt : a ≠ b → W p l e R s m args below meth c H locs cells slots Q (F0 m tgt ls rest)) (kf : a = b → W p l e R s m args below meth c H locs cells slots Q (F0 m (pc + 3) ls rest)) : W p l e R s m args below meth c H locs cells slots Q (F0 m pc ls (.int (iI b) :: .int (iI a) :: rest)) :=
  lv_icmp_ne hx hb hdg ht (fun h => kt (fun q => h ((iI_eq ra rb).mpr q))) (fun h => kf ((iI_eq ra rb).mp h))
theorem bq_lt (hx : p.tables.exec = Jvm.exec) (hb : c.code = cc) {a b off : Int} {tgt : Nat} (hdg : decode cc pc = .ok (.if_icmp .lt off, 3)) (ht : (pc : Int) + off = (tgt : Int)) (ra : rg a) (rb : rg b)
    (kt : a < b → W p l e R s m args below meth c H locs cells slots Q (F0 m tgt ls rest)) (kf : b ≤ a → W p l e R s m args below meth c H locs cells slots Q (F0 m (pc + 3) ls rest)) : W p l e R s m args below meth c H locs cells slots Q (F0 m pc ls (.int (iI b) :: .int (iI a) :: rest)) :=
  lv_icmp_lt hx hb hdg ht (fun h => kt ((iI_lt ra rb).mp h)) (fun h => kf (Int.not_lt.mp (fun q => h ((iI_lt ra rb).mpr q))))
theorem bq_ge (hx : p.tables.exec = Jvm.exec) (hb : c.code = cc) {a b off : Int} {tgt : Nat} (hdg : decode cc pc = .ok (.if_icmp .ge off, 3)) (ht : (pc : Int) + off = (tgt : Int)) (ra : rg a) (rb : rg b)
    (kt : b ≤ a → W p l e R s m args below meth c H locs cells slots Q (F0 m tgt ls rest)) (kf : a < b → W p l e R s m args below meth c H locs cells slots Q (F0 m (pc + 3) ls rest)) : W p l e R s m args below meth c H locs cells slots Q (F0 m pc ls (.int (iI b) :: .int (iI a) :: rest)) :=
  lv_icmp_ge hx hb hdg ht (fun h => kt ((iI_le rb ra).mp h)) (fun h => kf (Int.not_le.mp (fun q => h ((iI_le rb ra).mpr q))))
theorem bq_gt (hx : p.tables.exec = Jvm.exec) (hb : c.code = cc) {a b off : Int} {tgt : Nat} (hdg : decode cc pc = .ok (.if_icmp .gt off, 3)) (ht : (pc : Int) + off = (tgt : Int)) (ra : rg a) (rb : rg b)
    (kt : b < a → W p l e R s m args below meth c H locs cells slots Q (F0 m tgt ls rest)) (kf : a ≤ b → W p l e R s m args below meth c H locs cells slots Q (F0 m (pc + 3) ls rest)) : W p l e R s m args below meth c H locs cells slots Q (F0 m pc ls (.int (iI b) :: .int (iI a) :: rest)) :=
  lv_icmp_gt hx hb hdg ht (fun h => kt ((iI_lt rb ra).mp h)) (fun h => kf (Int.not_lt.mp (fun q => h ((iI_lt rb ra).mpr q))))
theorem bq_le (hx : p.tables.exec = Jvm.exec) (hb : c.code = cc) {a b off : Int} {tgt : Nat} (hdg : decode cc pc = .ok (.if_icmp .le off, 3)) (ht : (pc : Int) + off = (tgt : Int)) (ra : rg a) (rb : rg b)
    (kt : a ≤ b → W p l e R s m args below meth c H locs cells slots Q (F0 m tgt ls rest)) (kf : b < a → W p l e R s m args below meth c H locs cells slots Q (F0 m (pc + 3) ls rest)) : W p l e R s m args below meth c H locs cells slots Q (F0 m pc ls (.int (iI b) :: .int (iI a) :: rest)) :=
  lv_icmp_le hx hb hdg ht (fun h => kt ((iI_le ra rb).mp h)) (fun h => kf (Int.not_le.mp (fun q => h ((iI_le ra rb).mpr q))))
theorem bz_eq (hx : p.tables.exec = Jvm.exec) (hb : c.code = cc) {a off : Int} {tgt : Nat} (hdg : decode cc pc = .ok (.ifCond .eq off, 3)) (ht : (pc : Int) + off = (tgt : Int)) (ra : rg a)
    (kt : a = 0 → W p l e R s m args below meth c H locs cells slots Q (F0 m tgt ls rest)) (kf : a ≠ 0 → W p l e R s m args below meth c H locs cells slots Q (F0 m (pc + 3) ls rest)) : W p l e R s m args below meth c H locs cells slots Q (F0 m pc ls (.int (iI a) :: rest)) :=
  lv_if_eq hx hb hdg ht (fun h => kt ((iI_eq ra rg0).mp (h.trans iI_0))) (fun h => kf (fun q => h (((iI_eq ra rg0).mpr q).trans iI_0.symm)))
theorem bz_ne (hx : p.tables.exec = Jvm.exec) (hb : c.code = cc) {a off : Int} {tgt : Nat} (hdg : decode cc pc = .ok (.ifCond .ne off, 3)) (ht : (pc : Int) + off = (tgt : Int)) (ra : rg a)
    (kt : a ≠ 0 → W p l e R s m args below meth c H locs cells slots Q (F0 m tgt ls rest)) (kf : a = 0 → W p l e R s m args below meth c H locs cells slots Q (F0 m (pc + 3) ls rest)) : W p l e R s m args below meth c H locs cells slots Q (F0 m pc ls (.int (iI a) :: rest)) :=
  lv_if_ne hx hb hdg ht (fun h => kt (fun q => h (((iI_eq ra rg0).mpr q).trans iI_0.symm))) (fun h => kf ((iI_eq ra rg0).mp (h.trans iI_0)))
theorem bz_lt (hx : p.tables.exec = Jvm.exec) (hb : c.code = cc) {a off : Int} {tgt : Nat} (hdg : decode cc pc = .ok (.ifCond .lt off, 3)) (ht : (pc : Int) + off = (tgt : Int)) (ra : rg a)
    (kt : a < 0 → W p l e R s m args below meth c H locs cells slots Q (F0 m tgt ls rest)) (kf : 0 ≤ a → W p l e R s m args below meth c H locs cells slots Q (F0 m (pc + 3) ls rest)) : W p l e R s m args below meth c H locs cells slots Q (F0 m pc ls (.int (iI a) :: rest)) :=
  lv_if_lt hx hb hdg ht (fun h => kt ((iI_lt ra rg0).mp (by rw [← iI_0]; exact h))) (fun h => kf (Int.not_lt.mp (fun q => h (by rw [iI_0]; exact (iI_lt ra rg0).mpr q))))
theorem bz_ge (hx : p.tables.exec = Jvm.exec) (hb : c.code = cc) {a off : Int} {tgt : Nat} (hdg : decode cc pc = .ok (.ifCond .ge off, 3)) (ht : (pc : Int) + off = (tgt : Int)) (ra : rg a)
    (kt : 0 ≤ a → W p l e R s m args below meth c H locs cells slots Q (F0 m tgt ls rest)) (kf : a < 0 → W p l e R s m args below meth c H locs cells slots Q (F0 m (pc + 3) ls rest)) : W p l e R s m args below meth c H locs cells slots Q (F0 m pc ls (.int (iI a) :: rest)) :=
  lv_if_ge hx hb hdg ht (fun h => kt ((iI_le rg0 ra).mp (by rw [← iI_0]; exact h))) (fun h => kf (Int.not_le.mp (fun q => h (by rw [iI_0]; exact (iI_le rg0 ra).mpr q))))
theorem bz_gt (hx : p.tables.exec = Jvm.exec) (hb : c.code = cc) {a off : Int} {tgt : Nat} (hdg : decode cc pc = .ok (.ifCond .gt off, 3)) (ht : (pc : Int) + off = (tgt : Int)) (ra : rg a)
    (kt : 0 < a → W p l e R s m args below meth c H locs cells slots Q (F0 m tgt ls rest)) (kf : a ≤ 0 → W p l e R s m args below meth c H locs cells slots Q (F0 m (pc + 3) ls rest)) : W p l e R s m args below meth c H locs cells slots Q (F0 m pc ls (.int (iI a) :: rest)) :=
  lv_if_gt hx hb hdg ht (fun h => kt ((iI_lt rg0 ra).mp (by rw [← iI_0]; exact h))) (fun h => kf (Int.not_lt.mp (fun q => h (by rw [iI_0]; exact (iI_lt rg0 ra).mpr q))))
theorem bz_le (hx : p.tables.exec = Jvm.exec) (hb : c.code = cc) {a off : Int} {tgt : Nat} (hdg : decode cc pc = .ok (.ifCond .le off, 3)) (ht : (pc : Int) + off = (tgt : Int)) (ra : rg a)
    (kt : a ≤ 0 → W p l e R s m args below meth c H locs cells slots Q (F0 m tgt ls rest)) (kf : 0 < a → W p l e R s m args below meth c H locs cells slots Q (F0 m (pc + 3) ls rest)) : W p l e R s m args below meth c H locs cells slots Q (F0 m pc ls (.int (iI a) :: rest)) :=
  lv_if_le hx hb hdg ht (fun h => kt ((iI_le ra rg0).mp (by rw [← iI_0]; exact h))) (fun h => kf (Int.not_le.mp (fun q => h (by rw [iI_0]; exact (iI_le ra rg0).mpr q))))
/-! fields and arrays of the world -/
theorem gfG {C ref : String} {T : u_T} {N ci index : Nat} (C0 : Ct p s m args c g own cc nL) (hH : Hp g S s H locs) (k : Nat) {fs : List Value} (he : (Wl g S)[k]? = some (g.1 k, .inr (ci, fs))) (hc : vwCl[ci]? = some (C, T, N)) (hin : ∀ w ∈ u_ws C T N, w ∈ GL) (j : Nat) (hj : j < N)
    (hlink : Cond.fieldLink own index ref (T j).2.1 (T j).2.2.1 ∈ GL) (href : ref = (T j).1) {v : Value} (hv : fs[j]? = some v) (hdg : decode cc pc = .ok (.getfield index, 3))
    (kk : W p l e R s m args below meth c H locs cells slots Q (F0 m (pc + 3) ls (v :: rest))) : W p l e R s m args below meth c H locs cells slots Q (F0 m pc ls (.ref (g.1 k) :: rest)) :=
  va_get (Ts := GL) (own := own) (ref := ref) (C := C) (T := T) (N := N) (ci := ci) C0.1 C0.2.1 (fun w hw => C0.2.2.2.2.1.w hw) hin C0.2.2.2.1 C0.2.2.2.2.1.k hH.1 k he hc j hj (C0.2.2.2.2.1.w hlink) (fun _ h => by rw [href]; exact h) hv hdg kk
theorem gnG {C ref host : String} {T : u_T} {N ci index : Nat} (C0 : Ct p s m args c g own cc nL) (hH : Hp g S s H locs) (k : Nat) {fs : List Value} (he : (Wl g S)[k]? = some (g.1 k, .inr (ci, fs))) (hc : vwCl[ci]? = some (C, T, N)) (hin : ∀ w ∈ u_ws C T N, w ∈ GL) (j : Nat) (hj : j < N)
    (hlink : Cond.fieldLinkNest own index ref (T j).2.1 (T j).2.2.1 host ∈ NL) (href : ref = (T j).1) {v : Value} (hv : fs[j]? = some v) (hdg : decode cc pc = .ok (.getfield index, 3))
    (kk : W p l e R s m args below meth c H locs cells slots Q (F0 m (pc + 3) ls (v :: rest))) : W p l e R s m args below meth c H locs cells slots Q (F0 m pc ls (.ref (g.1 k) :: rest)) :=
  va_getN (Ts := GL) (own := own) (ref := ref) (C := C) (host := host) (T := T) (N := N) (ci := ci) C0.1 C0.2.1 (fun w hw => C0.2.2.2.2.1.w hw) hin C0.2.2.2.1 C0.2.2.2.2.1.k hH.1 k he hc j hj (C0.2.2.2.2.1.n hlink) (fun _ h => by rw [href]; exact h) hv hdg kk
theorem pfG {C ref : String} {T : u_T} {N ci index : Nat} (C0 : Ct p s m args c g own cc nL) (hH : Hp g S s H locs) (k : Nat) {fs : List Value} (he : (Wl g S)[k]? = some (g.1 k, .inr (ci, fs))) (hc : vwCl[ci]? = some (C, T, N)) (hin : ∀ w ∈ u_ws C T N, w ∈ GL) (ty0 : Nat → FieldType) (hty : ∀ k, k < N → parseFieldDescriptor (T k).2.2.1 = some (ty0 k)) (hnm : ∀ a, a < N → ∀ b, b < N → a ≠ b → (T a).2.1 ≠ (T b).2.1) (j : Nat) (hj : j < N)
    (hlink : Cond.fieldLink own index ref (T j).2.1 (T j).2.2.1 ∈ GL) (href : ref = (T j).1) (hfin : (T j).2.2.2 = false) (hd : parseFieldDescriptor (T j).2.2.1 = some .int) (hl : j < fs.length) {z : Int}
    (hset : (Wl g S).set k (g.1 k, .inr (ci, fs.set j (.int (iI z)))) = Wl g S') (hdg : decode cc pc = .ok (.putfield index, 3))
    (kk : ∀ (H1 : Heap) (locs1 : List Loc), Hp g S' s H1 locs1 → W p l e R s m args below meth c H1 locs1 cells slots Q (F0 m (pc + 3) ls rest)) : W p l e R s m args below meth c H locs cells slots Q (F0 m pc ls (.int (iI z) :: .ref (g.1 k) :: rest)) :=
  va_put (Ts := GL) (own := own) (ref := ref) (C := C) (T := T) (N := N) (ci := ci) C0.1 C0.2.1 (fun w hw => C0.2.2.2.2.1.w hw) hin ty0 hty hnm C0.2.2.2.1 C0.2.2.2.2.1.k hH.1 (C0.2.2.2.2.1.dd S) hH.2 k he hc j hj (C0.2.2.2.2.1.w hlink) (fun _ h => by rw [href]; exact h) hfin hd rfl rfl hl hdg (fun H1 locs1 h1 _ h3 => kk H1 locs1 ⟨by rw [← hset]; exact h1, h3⟩)
theorem alG (C0 : Ct p s m args c g own cc nL) (hH : Hp g S s H locs) (k n : Nat) (he : (Wl g S)[k]? = some (kA g S k n)) (hn : n ≤ 1000) {z : Int} (h0 : 0 ≤ z) (h1 : z < n) (hdg : decode cc pc = .ok (.iaload, 1))
    (kk : W p l e R s m args below meth c H locs cells slots Q (F0 m (pc + 1) ls (.int (iI (S k z)) :: rest))) : W p l e R s m args below meth c H locs cells slots Q (F0 m pc ls (.int (iI z) :: .ref (g.1 k) :: rest)) :=
  va_iald C0.1 C0.2.1 C0.2.2.2.2.1.k hH.1 k 0 he rfl (iI_in h0 h1 (by omega)) hdg (by rw [show (((iI z).toNatClampNeg : Nat) : Int) = z from iI_cl h0 (by omega)]; exact kk)
theorem asG (C0 : Ct p s m args c g own cc nL) (hH : Hp g S s H locs) (k n : Nat) (he : (Wl g S)[k]? = some (kA g S k n)) (hn : n ≤ 1000) {z x : Int} (hset : (Wl g S).set k (g.1 k, .inl (g.2.2.1, n, .inl (fun j : Nat => iI (ud (S k) z x j)))) = Wl g S') (h0 : 0 ≤ z) (h1 : z < n) (hdg : decode cc pc = .ok (.iastore, 1))
    (kk : ∀ (H1 : Heap) (locs1 : List Loc), Hp g S' s H1 locs1 → W p l e R s m args below meth c H1 locs1 cells slots Q (F0 m (pc + 1) ls rest)) : W p l e R s m args below meth c H locs cells slots Q (F0 m pc ls (.int (iI x) :: .int (iI z) :: .ref (g.1 k) :: rest)) :=
  va_iast C0.1 C0.2.1 C0.2.2.2.2.1.k hH.1 (C0.2.2.2.2.1.dd S) hH.2 k 0 he rfl (iI_in h0 h1 (by omega)) hdg (fun H1 locs1 h2 _ h4 => kk H1 locs1 ⟨by rw [← hset, ← upd_ud (S k) h0 (by omega)]; exact h2, h4⟩)
/-! calls -/
theorem Hp.pre {av : List Value} {U : State} (C0 : Ct p s m args c g own cc nL) (hH : Hp g S s H locs) (hU : U.heap = H) (hW : s.WarmedH U.vm) : PreG g av S av.toArray U :=
  ⟨rfl, GG.moved hW C0.2.2.2.2.1, by rw [hU]; exact ZZ.moved hW.alike (C0.2.2.2.2.2.kept hH.2.2.1), by rw [hU]; exact hH.1⟩
theorem Hp.call {st₀ t T' : State} {L : List Loc} {H1 : Heap} (hH : Hp g S s H locs) (h0 : st₀.heap = H) (h1 : t.heap = H1) (hL : ∀ q ∈ L, oA g q.base) (hP : va_P g.2.1 vwCl (Wl g S') t.heap) (hF : va_F (oA g) st₀ t) : Hp g S' s H1 (locs ++ L) := by
  subst h0; subst h1
  refine ⟨hP, Nat.le_trans hH.2.1 hF.1, fun q hq hA => (hF.2 q (Nat.lt_of_lt_of_le hq hH.2.1) hA).trans (hH.2.2.1 q hq hA), fun q hq => ?_⟩
  rcases List.mem_append.mp hq with h | h
  · exact hH.2.2.2 q h
  · exact hL q h
variable {index n maxL fr lo : Nat} {y : MethodName} {bytes : ByteArray} {ret : Option FieldType} {As : List Value} {stk : List Value} {v : Option Value} {b : Nat}
/-- the words of a call -/
def kwV (own : String) (index : Nat) (y : MethodName) (bytes : ByteArray) (maxL : Nat) (ret : Option FieldType) : Prop := Cond.methodLink own index y ∈ GL ∧ Cond.instanceMethod y ∈ GL ∧ Cond.selects y.cls y y ∈ GL ∧ Cond.code y bytes maxL ret ∈ GL ∧ Cond.initialized y.cls ∈ GL
def kwS (own : String) (index : Nat) (y : MethodName) (bytes : ByteArray) (maxL : Nat) (ret : Option FieldType) : Prop := Cond.methodLink own index y ∈ GL ∧ Cond.static y ∈ GL ∧ Cond.code y bytes maxL ret ∈ GL ∧ Cond.initialized y.cls ∈ GL
/-- what a name must be -/
def kyn (y : MethodName) (n : Nat) : Prop := y.cls ≠ "java/lang/invoke/MethodHandle" ∧ y.cls ≠ "java/lang/invoke/VarHandle" ∧ (parseMethodDescriptor y.desc).map (fun d => d.parameters.length) = some n
theorem kyn_len {y : MethodName} {n : Nat} (h : kyn y n) : ∀ sig, parseMethodDescriptor y.desc = some sig → n = sig.parameters.length := fun sig h1 => by
  have h2 := h.2.2
  rw [h1] at h2
  exact (Option.some.inj h2).symm
theorem cbG {rm : Room} {mc ms : Nat} (G0 : GG g s) (hl : Cond.methodLink own index y ∈ GL) (hc : Cond.code y bytes maxL ret ∈ GL) (hi : Cond.initialized y.cls ∈ GL) (hy : kyn y n) (hrc : rm.cells = mc) (hrs : rm.slots = ms) (hR : rm.frames + 1 ≤ R.frames ∧ 8 + (maxL + 11) + rm.locals ≤ R.locals) :
    CallB R s args own index y bytes maxL ret [.code y bytes maxL ret] rm mc ms n :=
  ⟨hrc, hrs, hR.1, hR.2, fun w hw a' U hW => by
    rw [List.mem_singleton] at hw
    subst hw
    exact word_at hW (good_of_word (List.mem_filter.mp hc).2) (G0.w (args := #[]) hc), List.mem_singleton.mpr rfl, G0.w hc, G0.w hi, ⟨hy.1, hy.2.1⟩, kyn_len hy, G0.w hl⟩
theorem cvG (C0 : Ct p s m args c g own cc nL) (hH : Hp g S s H locs) (hM : MetG l g y bytes maxL ret fr lo (.ref b :: As) S v S') (hw : kwV own index y bytes maxL ret) (hy : kyn y n) (hR : fr + 1 ≤ R.frames ∧ 8 + (maxL + 11) + lo ≤ R.locals) (hcs : cells ≤ R.cells ∧ slots ≤ R.slots)
    (k : Nat) {ci N : Nat} {T : u_T} {fs : List Value} (he : (Wl g S)[k]? = some (b, .inr (ci, fs))) (hc : vwCl[ci]? = some (y.cls, T, N)) (hn : As.length = n) (hsz : ls.size = nL) (hst : stk = As.reverse ++ .ref b :: rest) (hrest : (rest.map fun v => v.category).sum ≤ 8) (hdg : decode cc pc = .ok (.invokevirtual index, 3))
    (kk : ∀ (H1 : Heap) (locs1 : List Loc), Hp g S' s H1 locs1 → W p l e R s m args below meth c H1 locs1 cells slots Q (F0 m (pc + 3) ls (v.toList ++ rest))) : W p l e R s m args below meth c H locs cells slots Q (F0 m pc ls stk) := by
  subst hst
  have hr := va_runV (R := R) (args := args) (e := e) (below := below) (meth := meth) (cells := cells) (slots := slots) (Ts := GL) (C := y.cls) (b := b) (As := As) (rest := rest) (H := H) (locs := locs) (g := F0 m pc ls (As.reverse ++ .ref b :: rest)) ⟨C0.1, C0.2.1, C0.2.2.1, C0.2.2.2.1, fun w hw => C0.2.2.2.2.1.w hw⟩ hM
    ⟨cbG C0.2.2.2.2.1 hw.1 hw.2.2.2.1 hw.2.2.2.2 hy rfl rfl hR, C0.2.2.2.2.1.w hw.2.1, C0.2.2.2.2.1.w hw.2.2.1⟩ ⟨PreG.blind _ _ _, va_recv C0.2.2.2.2.1.k hH.1 hc he, fun U hU hW => hH.pre C0 hU hW⟩ rfl hn hsz rfl (lv_room hrest) hdg hcs
  intro T0 hT X
  obtain ⟨v', st₀, t, T', L, h0, X', hL, e1, e2, ⟨hv, hP1, hF⟩, stp⟩ := hr T0 hT X
  cases hv
  obtain ⟨t2, a1, b1⟩ := kk t.heap (locs ++ L) (hH.call (T' := T') h0 rfl hL hP1 hF) T' e1 X'
  exact ⟨t2, stp t2 a1, b1⟩
theorem csG (C0 : Ct p s m args c g own cc nL) (hH : Hp g S s H locs) (hM : MetG l g y bytes maxL ret fr lo As S v S') (hw : kwS own index y bytes maxL ret) (hy : kyn y n) (hR : fr + 1 ≤ R.frames ∧ 8 + (maxL + 11) + lo ≤ R.locals) (hcs : cells ≤ R.cells ∧ slots ≤ R.slots)
    (hn : As.length = n) (hsz : ls.size = nL) (hst : stk = As.reverse ++ rest) (hrest : (rest.map fun v => v.category).sum ≤ 8) (hdg : decode cc pc = .ok (.invokestatic index, 3))
    (kk : ∀ (H1 : Heap) (locs1 : List Loc), Hp g S' s H1 locs1 → W p l e R s m args below meth c H1 locs1 cells slots Q (F0 m (pc + 3) ls (v.toList ++ rest))) : W p l e R s m args below meth c H locs cells slots Q (F0 m pc ls stk) := by
  subst hst
  have hr := va_runS (R := R) (args := args) (e := e) (below := below) (meth := meth) (cells := cells) (slots := slots) (Ts := GL) (As := As) (rest := rest) (H := H) (locs := locs) (g := F0 m pc ls (As.reverse ++ rest)) ⟨C0.1, C0.2.1, C0.2.2.1, C0.2.2.2.1, fun w hw => C0.2.2.2.2.1.w hw⟩ hM
    ⟨cbG C0.2.2.2.2.1 hw.1 hw.2.2.1 hw.2.2.2 hy rfl rfl hR, C0.2.2.2.2.1.w hw.2.1⟩ ⟨PreG.blind _ _ _, fun U hU hW => hH.pre C0 hU hW⟩ rfl hn hsz rfl (lv_room hrest) hdg hcs
  intro T0 hT X
  obtain ⟨v', st₀, t, T', L, h0, X', hL, e1, e2, ⟨hv, hP1, hF⟩, stp⟩ := hr T0 hT X
  cases hv
  obtain ⟨t2, a1, b1⟩ := kk t.heap (locs ++ L) (hH.call (T' := T') h0 rfl hL hP1 hF) T' e1 X'
  exact ⟨t2, stp t2 a1, b1⟩
/-! a callee that throws, not caught here -/
theorem cvX {E : String} (C0 : Ct p s m args c g own cc nL) (ht : ∀ x ∈ c.exceptionTable.toList, False) (hlk : meth.locks = false) (hH : Hp g S s H locs) (hM : ThrG l g y bytes maxL ret fr lo (.ref b :: As) S E S') (hw : kwV own index y bytes maxL ret) (hy : kyn y n) (hR : fr + 1 ≤ R.frames ∧ 8 + (maxL + 11) + lo ≤ R.locals) (hcs : 0 + 1 ≤ R.cells ∧ 0 + 6 ≤ R.slots)
    (k : Nat) {ci N : Nat} {T : u_T} {fs : List Value} (he : (Wl g S)[k]? = some (b, .inr (ci, fs))) (hc : vwCl[ci]? = some (y.cls, T, N)) (hn : As.length = n) (hsz : ls.size = nL) (hst : stk = As.reverse ++ .ref b :: rest) (hrest : (rest.map fun v => v.category).sum ≤ 8) (hdg : decode cc pc = .ok (.invokevirtual index, 3)) :
    W p l e R s m args below meth c H locs 0 0 (vx_MQ below (fun _ _ _ _ => False) (XG g S' E) args s 1 6 (oA g)) (F0 m pc ls stk) := by
  subst hst
  have hr := vx_runV (R := R) (args := args) (e := e) (below := below) (meth := meth) (cells := 0) (slots := 0) (Ts := GL) (C := y.cls) (b := b) (As := As) (rest := rest) (H := H) (locs := locs) (g := F0 m pc ls (As.reverse ++ .ref b :: rest)) ⟨C0.1, C0.2.1, C0.2.2.1, C0.2.2.2.1, fun w hw => C0.2.2.2.2.1.w hw⟩ hM
    ⟨cbG C0.2.2.2.2.1 hw.1 hw.2.2.2.1 hw.2.2.2.2 hy rfl rfl hR, C0.2.2.2.2.1.w hw.2.1, C0.2.2.2.2.1.w hw.2.2.1⟩ ⟨PreG.blind _ _ _, va_recv C0.2.2.2.2.1.k hH.1 hc he, fun U hU hW => hH.pre C0 hU hW⟩ rfl hn hsz rfl (lv_room hrest) hdg hcs
  intro T0 hT X
  rcases hr T0 hT X with ⟨v, st₀, t, T', L, h0, X', hL, e1, e2, hq, stp⟩ | ⟨q, st₀, t, T', L, E', ce, h0, X', hL, e1, e2, ⟨rfl, hP1, hF⟩, hce, hcv, hcl, stp⟩
  · exact hq.elim
  · have h5 := hH.call (T' := T') h0 rfl hL hP1 hF
    obtain ⟨t2, a1, b1⟩ := vx_out (pc := pc) (ls := ls) (rest := rest) (q := q) (E := E') (Qc := fun _ _ _ _ => False) (XC := XG g S' E') (mc := 1) (ms := 6) (free := oA g) (fun x hx => (ht x hx).elim) hlk hce hcv hcl (fun t' ht' ha' => ⟨rfl, by rw [ht']; exact h5.1, h5.2.F ht'⟩) h5.2.2.2 (Nat.le_refl 1) (Nat.le_refl 6) T' e1 X'
    exact ⟨t2, stp.trans a1, b1⟩
theorem csX {E : String} (C0 : Ct p s m args c g own cc nL) (ht : ∀ x ∈ c.exceptionTable.toList, False) (hlk : meth.locks = false) (hH : Hp g S s H locs) (hM : ThrG l g y bytes maxL ret fr lo As S E S') (hw : kwS own index y bytes maxL ret) (hy : kyn y n) (hR : fr + 1 ≤ R.frames ∧ 8 + (maxL + 11) + lo ≤ R.locals) (hcs : 0 + 1 ≤ R.cells ∧ 0 + 6 ≤ R.slots)
    (hn : As.length = n) (hsz : ls.size = nL) (hst : stk = As.reverse ++ rest) (hrest : (rest.map fun v => v.category).sum ≤ 8) (hdg : decode cc pc = .ok (.invokestatic index, 3)) :
    W p l e R s m args below meth c H locs 0 0 (vx_MQ below (fun _ _ _ _ => False) (XG g S' E) args s 1 6 (oA g)) (F0 m pc ls stk) := by
  subst hst
  have hr := vx_runS (R := R) (args := args) (e := e) (below := below) (meth := meth) (cells := 0) (slots := 0) (Ts := GL) (As := As) (rest := rest) (H := H) (locs := locs) (g := F0 m pc ls (As.reverse ++ rest)) ⟨C0.1, C0.2.1, C0.2.2.1, C0.2.2.2.1, fun w hw => C0.2.2.2.2.1.w hw⟩ hM
    ⟨cbG C0.2.2.2.2.1 hw.1 hw.2.2.1 hw.2.2.2 hy rfl rfl hR, C0.2.2.2.2.1.w hw.2.1⟩ ⟨PreG.blind _ _ _, fun U hU hW => hH.pre C0 hU hW⟩ rfl hn hsz rfl (lv_room hrest) hdg hcs
  intro T0 hT X
  rcases hr T0 hT X with ⟨v, st₀, t, T', L, h0, X', hL, e1, e2, hq, stp⟩ | ⟨q, st₀, t, T', L, E', ce, h0, X', hL, e1, e2, ⟨rfl, hP1, hF⟩, hce, hcv, hcl, stp⟩
  · exact hq.elim
  · have h5 := hH.call (T' := T') h0 rfl hL hP1 hF
    obtain ⟨t2, a1, b1⟩ := vx_out (pc := pc) (ls := ls) (rest := rest) (q := q) (E := E') (Qc := fun _ _ _ _ => False) (XC := XG g S' E') (mc := 1) (ms := 6) (free := oA g) (fun x hx => (ht x hx).elim) hlk hce hcv hcl (fun t' ht' ha' => ⟨rfl, by rw [ht']; exact h5.1, h5.2.F ht'⟩) h5.2.2.2 (Nat.le_refl 1) (Nat.le_refl 6) T' e1 X'
    exact ⟨t2, stp.trans a1, b1⟩
/-! 'throw new E("text")' -/
theorem thG {cls text : String} {names : List String} {ik is ic : Nat} (hl : l.stackTraces = false) (C0 : Ct p s m args c g own cc nL) (ht : ∀ x ∈ c.exceptionTable.toList, False) (hlk : meth.locks = false) (hH : Hp g S s H locs) (ho : own = "SkyLoom") (hcls : Bundle.fit cls = true) (hnames : ∀ n ∈ names, Bundle.fit n = true)
    (hk : Cond.classLink own ik cls ∈ GL) (hini : Cond.initialized cls ∈ GL) (hstr : Cond.stringRef "SkyLoom" is text ∈ lw_tbl) (hat : ∀ w ∈ vx_atS own ic cls names, w.before args s = true)
    (hgood : ∀ w ∈ Cond.classLink own ik cls :: Cond.initialized cls :: vx_atS own ic cls names, vx_ot w = true) (hsz : ls.size = nL)
    (d0 : decode cc pc = .ok (.new ik, 3)) (d3 : decode cc (pc + 3) = .ok (.dup, 1)) (d4 : decode cc (pc + 4) = .ok (.ldc is, 2)) (d6 : decode cc (pc + 6) = .ok (.invokespecial ic, 3)) (d9 : decode cc (pc + 9) = .ok (.athrow, 1))
    (hRf : names.length + 3 < R.frames) (hRl : (rest.map fun v => v.category).sum + (13 * (names.length + 1) + 43) ≤ R.locals) (hRc : 0 + 1 ≤ R.cells) (hRs : 0 + 6 ≤ R.slots) :
    W p l e R s m args below meth c H locs 0 0 (vx_MQ below (fun _ _ _ _ => False) (XG g S cls) args s 1 6 (oA g)) (F0 m pc ls rest) := by
  subst ho
  exact vx_throwS (A := oA g) (sa := g.2.2.2.2 is) C0.1 C0.2.1 hl C0.2.2.2.1 hcls hnames (C0.2.2.2.2.1.w hk) (C0.2.2.2.2.1.w hini) (C0.2.2.2.2.1.2.2.2.2.1 is text hstr) hat hgood C0.2.2.2.2.2.1 C0.2.2.2.2.2.2 hH.2 (hsz.trans C0.2.2.1.symm) d0 d3 d4 d6 d9 (fun x hx => (ht x hx).elim) hRf hRl hRc hRs hlk
    (fun t _ h2 h3 => ⟨rfl, hH.1.kept (fun k q hq => h3 q.1 (hH.1 k q hq).lt), Nat.le_trans hH.2.1 h2, fun q hq hA => (h3 q (Nat.lt_of_lt_of_le hq hH.2.1)).trans (hH.2.2.1 q hq hA)⟩) hH.2.2.2 (Nat.le_refl 1) (Nat.le_refl 6)
end RW
theorem lpN {P : Nat → Prop} (h : ∀ k, (∀ j, j < k → P j) → P k) : ∀ k, P k := fun k => Nat.strongRecOn k h
