/-! ===== throws that leave a new object; the rows of the law ===== -/
section TG
variable {p : Program} {l : Launch} {e : Env} {R : Room} {s : State} {m : MethodId} {args : Array Value} {below : List Frame} {meth : Method} {c : Code} {H : Heap} {locs : List Loc} {cells slots : Nat} {Q : State → Prop}
variable {mc ms : Nat} {free : Addr → Prop} {A0 A1 : Nat → Prop} {H0 : Heap} {a : Array Value} {ls : Array Slot} {st0 rest : List Value}
variable {Qc : Array Value → State → Outcome → State → Prop} {XC : String → State → State → Prop}
theorem vx_throwG {cc : ByteArray} {pc : Nat} (hexec : p.tables.exec = Jvm.exec) (hb : c.code = cc) (hl : l.stackTraces = false) {own cls text : String} {names : List String} {ik is ic mc ms sa : Nat} {A : Nat → Prop}
    (hown : s.vm.findClass own = some m.cls) (hcls : Bundle.fit cls = true) (hnames : ∀ n ∈ names, Bundle.fit n = true)
    (hk : (Cond.classLink own ik cls).before args s = true) (hini : (Cond.initialized cls).before args s = true) (hstr : vk_R own is text sa s) (hat : ∀ w ∈ vx_atS own ic cls names, w.before args s = true)
    (hgood : ∀ w ∈ Cond.classLink own ik cls :: Cond.initialized cls :: vx_atS own ic cls names, vx_ot w = true)
    (hU : vx_Zq Bundle.tN "UNASSIGNED_STACK" Bundle.steD A s s.heap) (hN : vx_Zq Bundle.tN "SUPPRESSED_SENTINEL" Bundle.listD A s s.heap) (hS : va_S A s.heap H locs) (hsize : ls.size = c.maxLocals)
    (d0 : decode cc pc = .ok (.new ik, 3)) (d3 : decode cc (pc + 3) = .ok (.dup, 1)) (d4 : decode cc (pc + 4) = .ok (.ldc is, 2)) (d6 : decode cc (pc + 6) = .ok (.invokespecial ic, 3)) (d9 : decode cc (pc + 9) = .ok (.athrow, 1))
    (hout : ∀ x ∈ c.exceptionTable.toList, covers x (pc + 9) = false)
    (hRframes : names.length + 3 < R.frames) (hRlocals : (rest.map fun v => v.category).sum + (13 * (names.length + 1) + 43) ≤ R.locals) (hRcells : cells + 1 ≤ R.cells) (hRslots : slots + 6 ≤ R.slots) (hlocks : meth.locks = false)
    (hx : ∀ t : State, s.vm.Alike t.vm → H.size + 1 ≤ t.heap.size → (∀ q : Nat, q < H.size → t.heap[q]? = H[q]?) → XC cls s t)
    (hf : ∀ z ∈ locs, free z.base) (hc : cells + 1 ≤ mc) (hs : slots + 6 ≤ ms) :
    W p l e R s m args below meth c H locs cells slots (vx_MQ below Qc XC args s mc ms free) (F0 m pc ls rest) := by
  intro T hT X
  have htr : e.platform.stackTraces = false := (show e.platform.stackTraces = l.stackTraces by rw [X.admits.platform]).trans hl
  have Y := vx_rebase X (R' := { frames := R.frames, locals := R.locals, cells := 1, slots := 6 }) (Nat.le_refl _) (Nat.le_refl _) hRcells hRslots
  obtain ⟨s', hA⟩ : ∃ z, z = (T.setVm s.vm).setFrames (.invoking m args :: below) := ⟨_, rfl⟩
  rw [← hA] at Y
  have hvm : s'.vm = s.vm := by rw [hA]; rfl
  have hhp : s'.heap = H := by rw [hA]; exact hT
  have hW0 : s.WarmedH s'.vm := by rw [hvm]; exact State.WarmedH.refl s
  have hat' : ∀ w ∈ vx_atS own ic cls names, w.before args s' = true := fun w hw => vx_ot_at hW0 hvm.symm (hgood w (List.mem_cons_of_mem _ (List.mem_cons_of_mem _ hw))) (hat w hw)
  have hk' : (Cond.classLink own ik cls).before args s' = true := vx_ot_at hW0 hvm.symm (hgood _ List.mem_cons_self) hk
  have hini' : (Cond.initialized cls).before args s' = true := vx_ot_at hW0 hvm.symm (hgood _ (List.mem_cons_of_mem _ List.mem_cons_self)) hini
  have hU' : vx_Zq Bundle.tN "UNASSIGNED_STACK" Bundle.steD A s' s'.heap := by rw [hhp]; exact vx_Zq.moved hW0.alike (hU.kept hS.2.1)
  have hN' : vx_Zq Bundle.tN "SUPPRESSED_SENTINEL" Bundle.listD A s' s'.heap := by rw [hhp]; exact vx_Zq.moved hW0.alike (hN.kept hS.2.1)
  have h : ∀ w ∈ Bundle.ownAtoms own ic cls names, w.before args s' = true := vx_own hat' (vx_isRefq hU'.1) (vx_isRefq hN'.1) hU'.2.word hN'.2.word
  have hown' : s'.vm.findClass own = some m.cls := by rw [hvm]; exact hown
  have hins : (Cond.instantiable cls 6).before args s' = true := h _ (by simp [Bundle.ownAtoms])
  obtain ⟨vm₁, cX, kX, hfX, hkX, -, -, X₁, st1⟩ := Y.newCold hexec (own := own) (C := cls) (index := ik) (n := 6) hown' hk' hins hini'
    (g := F0 m pc ls rest) rfl (by rw [hb]; exact d0) (Nat.le_refl _) (Nat.le_refl _)
  generalize hT1 : (T.setVm vm₁).pushCell { cls := cX, slots := kX.instanceTypes.map defaultValue, vm := .none } = T1 at X₁ st1
  have hcat : (Value.ref T.heap.size).category = 1 := rfl
  have hcellA : T1.heap[T.heap.size]? = some (freshCell cX kX) := by rw [← hT1]; exact State.heap_pushCell_size _ _
  have d3' : decode c.code (pc + 3) = .ok (.dup, 1) := by rw [hb]; exact d3
  have d4' : decode c.code (pc + 4) = .ok (.ldc is, 2) := by rw [hb]; exact d4
  have hstr' : vk_R own is text sa s' := vk_R.warm hW0 hstr
  obtain ⟨U, hsteps, hrun, hend, hW, hsame, ce, hce, hO⟩ := X₁.ctorThrowS hexec htr (own := own) (cls := cls) (names := names) (ic := ic) hown' hcls hnames h (fun x hx => nomatch hx) hfX hkX hcellA (by rw [hhp, hT]; exact Nat.le_refl _) (msg := .ref sa) rfl
    (g := { method := m, pc := pc + 6, locals := ls, stack := .ref sa :: .ref T.heap.size :: .ref T.heap.size :: rest, locked := none }) rfl hsize rfl rfl (rest := rest) rfl
    (by rw [hb]; exact d6) (by rw [hb]; exact d9) hout hRframes (by simp only [List.map_cons, List.sum_cons, hcat]; omega) hlocks
  obtain ⟨f1, f2⟩ := vx_frame hsame
  rw [hhp] at f1 f2
  have hWs : s.WarmedH U.vm := State.WarmedH.trans hW0 hW
  have hcl : s.vm.findClass cls = some ce.cls := by
    have h9 := hO.cls
    rw [hvm] at h9
    exact h9
  have hall : s.sameButNew ({ U with vm := s.vm } : State) locs mc ms := by
    subst hA
    obtain ⟨e1, e2⟩ := hsame
    rw [State.setFrames_setFrames] at e1
    have h2 : (T.setVm s.vm).sameButNew ({ U with vm := s.vm } : State) [] (0 + 1) (0 + 6) := ⟨e1, e2⟩
    have h3 := X.same.trans h2
    rw [List.append_nil] at h3
    exact h3.mono hc hs
  refine ⟨U, ?_, .threw T.heap.size, hrun, hend, Or.inr ⟨T.heap.size, rfl, cls, ce, locs, hx U hWs.alike (by have h9 := (Array.getElem?_eq_some_iff.mp hce).1; rw [← hT]; exact h9) (fun q hq => f2 q hq (fun z hz => nomatch hz)), hce, hO.vm, hcl, hWs, hall, hf⟩⟩
  refine st1 _ ?_
  show Steps p.tables e below (T1.setTop { method := m, pc := pc + 3, locals := ls, stack := .ref T.heap.size :: rest, locked := none }) _
  jvm_step X₁.here [X₁.here.top, hexec, d3', Value.category]
  exact X₁.ldcString hexec (own := own) (text := text) (index := is) (a := sa) hown' hstr'.1 hstr'.2
    (g := { method := m, pc := pc + 4, locals := ls, stack := .ref T.heap.size :: .ref T.heap.size :: rest, locked := none }) rfl d4' _ hsteps
end TG
/-- it throws, and the heap has grown -/
def XH (g : gT) (S' : gSt) (E : String) : String → State → State → Prop := fun E' st t => E' = E ∧ va_P g.2.1 vwCl (Wl g S') t.heap ∧ va_F (oA g) st t ∧ st.heap.size + 1 ≤ t.heap.size
def ThrH (l : Launch) (g : gT) (y : MethodName) (cc : ByteArray) (nL : Nat) (ret : Option FieldType) (fr lo : Nat) (av : List Value) (S : gSt) (E : String) (S' : gSt) : Prop :=
  vx_Met l y [.code y cc nL ret] { frames := fr, cells := 1, slots := 6, locals := lo } (PreG g av S) (fun _ _ _ _ => False) (XH g S' E) 1 6 (oA g)
def RetH (g : gT) (v : Option Value) (S' : gSt) : Array Value → State → Outcome → State → Prop := fun a st o t => RetG g v S' a st o t ∧ st.heap.size + 1 ≤ t.heap.size
def LwH (l : Launch) (g : gT) (y : MethodName) (cc : ByteArray) (nL : Nat) (hh : List (Nat × Nat × Nat × Nat)) (av : List Value) (S : gSt) (z : Int) (S' : gSt) : Prop :=
  Met l y [.codeWith y cc nL (some .int) hh] { frames := 8, cells := 1, slots := 6, locals := 200 } (PreG g av S) (RetH g (some (.int (iI z))) S') 1 6 (oA g)
section BH
variable {l : Launch} {g : gT} {y : MethodName} {cc : ByteArray} {nL fr lo : Nat} {ret : Option FieldType} {av : List Value} {S S' : gSt} {v : Option Value} {E : String}
theorem bodyH (hy : plainName y.cls = true) (hlen : (lg_sl av).length ≤ nL)
    (h : ∀ (p : Program) (e : Env) (s : State) (m : MethodId) (args : Array Value) (below : List Frame) (meth : Method) (c : Code) (ls : Array Slot), Ct p s m args c g y.cls cc nL → (∀ x ∈ c.exceptionTable.toList, False) → meth.locks = false → lv_has ls nL (lv_args 0 av) → Hp g S s s.heap [] →
      W p l e { frames := fr, cells := 1, slots := 6, locals := lo } s m args below meth c s.heap [] 0 0 (vx_MQ below (fun _ _ _ _ => False) (XH g S' E) args s 1 6 (oA g)) (F0 m 0 ls [])) : ThrH l g y cc nL ret fr lo av S E S' := by
  refine vx_ofW (cc := cc) (maxL := nL) (ret := ret) hy rfl ?_
  intro p e s m args below meth c s₁ B hml ht hv
  obtain ⟨rfl, hG, hZ, hP⟩ := hv
  have hl := lv_entry av (n := nL) hlen
  rw [lg_entry_eq]
  exact h p e s m _ below meth c _ ⟨B.exec, B.bytes, hml, findClass_of_methodNamed B.named, hG, hZ⟩ ht B.notSynchronized hl ⟨hP, va_S.rf⟩
theorem bodyV {hh : List (Nat × Nat × Nat × Nat)} {z : Int} (hy : plainName y.cls = true) (hlen : (lg_sl av).length ≤ nL)
    (h : ∀ (p : Program) (e : Env) (s : State) (m : MethodId) (args : Array Value) (below : List Frame) (meth : Method) (c : Code) (ls : Array Slot), Ct p s m args c g y.cls cc nL → meth.sig.returnType = some .int → c.exceptionTable.toList = tableOf hh → meth.locks = false → lv_has ls nL (lv_args 0 av) → Hp g S s s.heap [] →
      W p l e { frames := 8, cells := 1, slots := 6, locals := 200 } s m args below meth c s.heap [] 0 0 (MQ below (RetH g (some (.int (iI z))) S') args s 1 6 (oA g)) (F0 m 0 ls [])) : LwH l g y cc nL hh av S z S' := by
  unfold LwH
  refine MetFree.of_bodyS (code := cc) (maxLocals := nL) (ret := some .int) hy ?_ ?_
  · intro args s m h hn
    obtain ⟨m9, meth, c, hn9, h1, h2, h3, h4, -, h5, h6, -⟩ := Cond.codeWith_spec (atoms_spec (ws := [Cond.codeWith y cc nL (some .int) hh]) h _ List.mem_cons_self)
    cases hn.symm.trans hn9
    exact ⟨meth, c, h1, h2, h3, h4, h5, h6⟩
  · intro p e s m args below meth c s₁ B hml hP _
    have hh0 : s₁.heap = s.heap := by rw [B.state]; rfl
    obtain ⟨rfl, hG, hZ, hP⟩ := hP
    have hl := lv_entry av (n := nL) hlen
    have ht := vx_table (x := y) B (atoms_spec (ws := [Cond.codeWith y cc nL (some .int) hh]) B.pre _ List.mem_cons_self)
    have K := h p e s m av.toArray below meth c _ ⟨B.exec, B.bytes, hml, findClass_of_methodNamed B.named, hG, hZ⟩ B.returns ht B.notSynchronized hl ⟨hP, va_S.rf⟩
    rw [← lg_entry_eq] at K
    obtain ⟨t, a1, o, b1, b2, b3⟩ := K s₁ hh0 (Stand.of_body B)
    exact ⟨t, o, a1, b1, b2, ⟨b3.1, b3.2⟩⟩
end BH
section RH
variable {p : Program} {l : Launch} {e : Env} {R : Room} {s : State} {m : MethodId} {args : Array Value} {below : List Frame} {meth : Method} {c : Code} {H : Heap} {locs : List Loc} {cells slots : Nat} {Q : State → Prop}
variable {g : gT} {own : String} {cc : ByteArray} {nL : Nat} {S S' : gSt} {pc : Nat} {ls : Array Slot} {rest : List Value}
theorem thH {cls text : String} {names : List String} {ik is ic : Nat} (hl : l.stackTraces = false) (C0 : Ct p s m args c g own cc nL) (ht : ∀ x ∈ c.exceptionTable.toList, False) (hlk : meth.locks = false) (hH : Hp g S s H locs) (ho : own = "SkyLoom") (hcls : Bundle.fit cls = true) (hnames : ∀ n ∈ names, Bundle.fit n = true)
    (hk : Cond.classLink own ik cls ∈ GL) (hini : Cond.initialized cls ∈ GL) (hstr : Cond.stringRef "SkyLoom" is text ∈ lw_tbl) (hat : ∀ w ∈ vx_atS own ic cls names, w.before args s = true)
    (hgood : ∀ w ∈ Cond.classLink own ik cls :: Cond.initialized cls :: vx_atS own ic cls names, vx_ot w = true) (hsz : ls.size = nL)
    (d0 : decode cc pc = .ok (.new ik, 3)) (d3 : decode cc (pc + 3) = .ok (.dup, 1)) (d4 : decode cc (pc + 4) = .ok (.ldc is, 2)) (d6 : decode cc (pc + 6) = .ok (.invokespecial ic, 3)) (d9 : decode cc (pc + 9) = .ok (.athrow, 1))
    (hRf : names.length + 3 < R.frames) (hRl : (rest.map fun v => v.category).sum + (13 * (names.length + 1) + 43) ≤ R.locals) (hRc : 0 + 1 ≤ R.cells) (hRs : 0 + 6 ≤ R.slots) :
    W p l e R s m args below meth c H locs 0 0 (vx_MQ below (fun _ _ _ _ => False) (XH g S cls) args s 1 6 (oA g)) (F0 m pc ls rest) := by
  subst ho
  exact vx_throwG (A := oA g) (sa := g.2.2.2.2 is) C0.1 C0.2.1 hl C0.2.2.2.1 hcls hnames (C0.2.2.2.2.1.w hk) (C0.2.2.2.2.1.w hini) (C0.2.2.2.2.1.2.2.2.2.1 is text hstr) hat hgood C0.2.2.2.2.2.1 C0.2.2.2.2.2.2 hH.2 (hsz.trans C0.2.2.1.symm) d0 d3 d4 d6 d9 (fun x hx => (ht x hx).elim) hRf hRl hRc hRs hlk
    (fun t _ h2 h3 => ⟨rfl, hH.1.kept (fun k q hq => h3 q.1 (hH.1 k q hq).lt), ⟨Nat.le_trans hH.2.1 (Nat.le_trans (Nat.le_succ _) h2), fun q hq hA => (h3 q (Nat.lt_of_lt_of_le hq hH.2.1)).trans (hH.2.2.1 q hq hA)⟩, Nat.le_trans (Nat.add_le_add_right hH.2.1 1) h2⟩) hH.2.2.2 (Nat.le_refl 1) (Nat.le_refl 6)
theorem retH (C : Ct p s m args c g own cc nL) (hr : meth.sig.returnType = some .int) (hk : meth.locks = false) (hH : Hp g S s H locs) (hz : s.heap.size + 1 ≤ H.size) {r : Int} (hdg : decode cc pc = .ok (.ireturn, 1)) :
    W p l e R s m args below meth c H locs 1 6 (MQ below (RetH g (some (.int (iI r))) S) args s 1 6 (oA g)) (F0 m pc ls [.int (iI r)]) :=
  W.iret C.1 C.2.1 hr (fun t ht hW => ⟨⟨rfl, by rw [ht]; exact hH.1, hH.2.F ht⟩, by rw [ht]; exact hz⟩) hH.2.2.2 hdg hk
theorem bs_add (hx : p.tables.exec = Jvm.exec) (hb : c.code = cc) {a b r : Int} (hdg : decode cc pc = .ok (.iadd, 1)) (hr : a + b = r)
    (k : W p l e R s m args below meth c H locs cells slots Q (F0 m (pc + 1) ls (.int (iI r) :: rest))) : W p l e R s m args below meth c H locs cells slots Q (F0 m pc ls (.int (iI b) :: .int (iI a) :: rest)) := bi_add hx hb hdg (by rw [hr]; exact k)
theorem bs_sub (hx : p.tables.exec = Jvm.exec) (hb : c.code = cc) {a b r : Int} (hdg : decode cc pc = .ok (.isub, 1)) (hr : a - b = r)
    (k : W p l e R s m args below meth c H locs cells slots Q (F0 m (pc + 1) ls (.int (iI r) :: rest))) : W p l e R s m args below meth c H locs cells slots Q (F0 m pc ls (.int (iI b) :: .int (iI a) :: rest)) := bi_sub hx hb hdg (by rw [hr]; exact k)
theorem bs_mul (hx : p.tables.exec = Jvm.exec) (hb : c.code = cc) {a b r : Int} (hdg : decode cc pc = .ok (.imul, 1)) (hr : a * b = r)
    (k : W p l e R s m args below meth c H locs cells slots Q (F0 m (pc + 1) ls (.int (iI r) :: rest))) : W p l e R s m args below meth c H locs cells slots Q (F0 m pc ls (.int (iI b) :: .int (iI a) :: rest)) := bi_mul hx hb hdg (by rw [hr]; exact k)
theorem bs_rem (hx : p.tables.exec = Jvm.exec) (hb : c.code = cc) {a b r : Int} (hdg : decode cc pc = .ok (.irem, 1)) (ha : rg a) (hbr : rg b) (h0 : b ≠ 0) (hr : a.tmod b = r)
    (k : W p l e R s m args below meth c H locs cells slots Q (F0 m (pc + 1) ls (.int (iI r) :: rest))) : W p l e R s m args below meth c H locs cells slots Q (F0 m pc ls (.int (iI b) :: .int (iI a) :: rest)) := bi_rem hx hb hdg ha hbr h0 (by rw [hr]; exact k)
theorem bs_shr (hx : p.tables.exec = Jvm.exec) (hb : c.code = cc) {a b r : Int} (hdg : decode cc pc = .ok (.ishr, 1)) (hr : iI a >>> (iI b &&& 31) = iI r)
    (k : W p l e R s m args below meth c H locs cells slots Q (F0 m (pc + 1) ls (.int (iI r) :: rest))) : W p l e R s m args below meth c H locs cells slots Q (F0 m pc ls (.int (iI b) :: .int (iI a) :: rest)) := lv_ishr hx hb hdg (by rw [hr]; exact k)
theorem bs_and (hx : p.tables.exec = Jvm.exec) (hb : c.code = cc) {a b r : Int} (hdg : decode cc pc = .ok (.iand, 1)) (hr : iI a &&& iI b = iI r)
    (k : W p l e R s m args below meth c H locs cells slots Q (F0 m (pc + 1) ls (.int (iI r) :: rest))) : W p l e R s m args below meth c H locs cells slots Q (F0 m pc ls (.int (iI b) :: .int (iI a) :: rest)) := lv_iand hx hb hdg (by rw [hr]; exact k)
def kwW (own : String) (index : Nat) (y : MethodName) (bytes : ByteArray) (maxL : Nat) (hh : List (Nat × Nat × Nat × Nat)) : Prop := Cond.codeWith y bytes maxL (some .int) hh ∈ GL ∧ Cond.initialized y.cls ∈ GL ∧ Cond.methodLink own index y ∈ GL ∧ Cond.static y ∈ GL
variable {index n maxL fr lo : Nat} {y : MethodName} {bytes : ByteArray} {ret : Option FieldType} {As : List Value} {stk : List Value} {v : Option Value} {b : Nat}
theorem ctH {E name : String} (C0 : Ct p s m args c g own cc nL) (hH : Hp g S s H locs) (hM : ThrH l g y bytes maxL ret fr lo (.ref b :: As) S E S') (hw : kwV own index y bytes maxL ret) (hy : kyn y n) (hR : fr + 1 ≤ R.frames ∧ 8 + (maxL + 11) + lo ≤ R.locals) (hcs : 0 + 1 ≤ R.cells ∧ 0 + 6 ≤ R.slots)
    (k : Nat) {ci N : Nat} {T : u_T} {fs : List Value} (he : (Wl g S)[k]? = some (b, .inr (ci, fs))) (hc : vwCl[ci]? = some (y.cls, T, N)) (hn : As.length = n) (hsz : ls.size = nL) (hst : stk = As.reverse ++ .ref b :: rest) (hrest : (rest.map fun v => v.category).sum ≤ 8) (hdg : decode cc pc = .ok (.invokevirtual index, 3))
    (pre : List ExceptionTableEntry) (x : ExceptionTableEntry) (suf : List ExceptionTableEntry) (hsplit : c.exceptionTable.toList = pre ++ x :: suf)
    (hpass : ∀ z ∈ pre, covers z pc = false ∨ (z.catchType ≠ 0 ∧ ∃ nm : String, (Cond.classLink own z.catchType nm).before args s = true ∧ va_Nc E nm s)) (hx : covers x pc = true) (h0 : x.catchType ≠ 0)
    (hlink : (Cond.classLink own x.catchType name).before args s = true) (hcast : (Cond.castable E name).before args s = true)
    (kk : ∀ (q : Nat) (H1 : Heap) (locs1 : List Loc), Hp g S' s H1 locs1 → H.size + 1 ≤ H1.size → W p l e R s m args below meth c H1 locs1 1 6 Q (F0 m x.handlerPc ls [.ref q])) :
    W p l e R s m args below meth c H locs 0 0 Q (F0 m pc ls stk) := by
  subst hst
  have hr := vx_runV (R := R) (args := args) (e := e) (below := below) (meth := meth) (cells := 0) (slots := 0) (Ts := GL) (C := y.cls) (b := b) (As := As) (rest := rest) (H := H) (locs := locs) (g := F0 m pc ls (As.reverse ++ .ref b :: rest)) ⟨C0.1, C0.2.1, C0.2.2.1, C0.2.2.2.1, fun w hw => C0.2.2.2.2.1.w hw⟩ hM
    ⟨cbG C0.2.2.2.2.1 hw.1 hw.2.2.2.1 hw.2.2.2.2 hy rfl rfl hR, C0.2.2.2.2.1.w hw.2.1, C0.2.2.2.2.1.w hw.2.2.1⟩ ⟨PreG.blind _ _ _, va_recv C0.2.2.2.2.1.k hH.1 hc he, fun U hU hW => hH.pre C0 hU hW⟩ rfl hn hsz rfl (lv_room hrest) hdg hcs
  intro T0 hT X
  rcases hr T0 hT X with ⟨v, st₀, t, T', L, h0, X', hL, e1, e2, hq, stp⟩ | ⟨q, st₀, t, T', L, E', ce, h0', X', hL, e1, e2, ⟨rfl, hP1, hF, hgr⟩, hce, hcv, hcl, stp⟩
  · exact hq.elim
  · have h5 := hH.call (T' := T') h0' rfl hL hP1 hF
    obtain ⟨t2, a1, b1⟩ := vx_catch (pc := pc) (ls := ls) (rest := rest) (q := q) (E := E') (ce := ce) (Q := Q) C0.2.2.2.1 pre x suf hsplit hpass hx h0 hlink hcast hce hcv hcl (kk q t.heap (locs ++ L) h5 (h0' ▸ hgr)) T' e1 X'
    exact ⟨t2, stp.trans a1, b1⟩
theorem cvZ {N : Nat} {r r' : Int} (C0 : Ct p s m args c g own cc nL) (hH : Hp g S s H locs) (hz : N ≤ H.size) (hM : MetG l g y bytes maxL ret fr lo (.ref b :: As) S (some (.int (iI r))) S') (hrr : r = r') (hw : kwV own index y bytes maxL ret) (hy : kyn y n) (hR : fr + 1 ≤ R.frames ∧ 8 + (maxL + 11) + lo ≤ R.locals) (hcs : cells ≤ R.cells ∧ slots ≤ R.slots)
    (k : Nat) {ci N9 : Nat} {T : u_T} {fs : List Value} (he : (Wl g S)[k]? = some (b, .inr (ci, fs))) (hc : vwCl[ci]? = some (y.cls, T, N9)) (hn : As.length = n) (hsz : ls.size = nL) (hst : stk = As.reverse ++ .ref b :: rest) (hrest : (rest.map fun v => v.category).sum ≤ 8) (hdg : decode cc pc = .ok (.invokevirtual index, 3))
    (kk : ∀ (H1 : Heap) (locs1 : List Loc), Hp g S' s H1 locs1 → N ≤ H1.size → W p l e R s m args below meth c H1 locs1 cells slots Q (F0 m (pc + 3) ls (.int (iI r') :: rest))) : W p l e R s m args below meth c H locs cells slots Q (F0 m pc ls stk) := by
  subst hrr
  subst hst
  have hr := va_runV (R := R) (args := args) (e := e) (below := below) (meth := meth) (cells := cells) (slots := slots) (Ts := GL) (C := y.cls) (b := b) (As := As) (rest := rest) (H := H) (locs := locs) (g := F0 m pc ls (As.reverse ++ .ref b :: rest)) ⟨C0.1, C0.2.1, C0.2.2.1, C0.2.2.2.1, fun w hw => C0.2.2.2.2.1.w hw⟩ hM
    ⟨cbG C0.2.2.2.2.1 hw.1 hw.2.2.2.1 hw.2.2.2.2 hy rfl rfl hR, C0.2.2.2.2.1.w hw.2.1, C0.2.2.2.2.1.w hw.2.2.1⟩ ⟨PreG.blind _ _ _, va_recv C0.2.2.2.2.1.k hH.1 hc he, fun U hU hW => hH.pre C0 hU hW⟩ rfl hn hsz rfl (lv_room hrest) hdg hcs
  intro T0 hT X
  obtain ⟨v', st₀, t, T', L, h0, X', hL, e1, e2, ⟨hv, hP1, hF⟩, stp⟩ := hr T0 hT X
  cases hv
  obtain ⟨t2, a1, b1⟩ := kk t.heap (locs ++ L) (hH.call (T' := T') h0 rfl hL hP1 hF) (Nat.le_trans hz (h0 ▸ hF.1)) T' e1 X'
  exact ⟨t2, stp t2 a1, b1⟩
theorem csZ {N : Nat} {r r' : Int} (C0 : Ct p s m args c g own cc nL) (hH : Hp g S s H locs) (hz : N ≤ H.size) (hM : MetG l g y bytes maxL ret fr lo As S (some (.int (iI r))) S') (hrr : r = r') (hw : kwS own index y bytes maxL ret) (hy : kyn y n) (hR : fr + 1 ≤ R.frames ∧ 8 + (maxL + 11) + lo ≤ R.locals) (hcs : cells ≤ R.cells ∧ slots ≤ R.slots)
    (hn : As.length = n) (hsz : ls.size = nL) (hst : stk = As.reverse ++ rest) (hrest : (rest.map fun v => v.category).sum ≤ 8) (hdg : decode cc pc = .ok (.invokestatic index, 3))
    (kk : ∀ (H1 : Heap) (locs1 : List Loc), Hp g S' s H1 locs1 → N ≤ H1.size → W p l e R s m args below meth c H1 locs1 cells slots Q (F0 m (pc + 3) ls (.int (iI r') :: rest))) : W p l e R s m args below meth c H locs cells slots Q (F0 m pc ls stk) := by
  subst hrr
  subst hst
  have hr := va_runS (R := R) (args := args) (e := e) (below := below) (meth := meth) (cells := cells) (slots := slots) (Ts := GL) (As := As) (rest := rest) (H := H) (locs := locs) (g := F0 m pc ls (As.reverse ++ rest)) ⟨C0.1, C0.2.1, C0.2.2.1, C0.2.2.2.1, fun w hw => C0.2.2.2.2.1.w hw⟩ hM
    ⟨cbG C0.2.2.2.2.1 hw.1 hw.2.2.1 hw.2.2.2 hy rfl rfl hR, C0.2.2.2.2.1.w hw.2.1⟩ ⟨PreG.blind _ _ _, fun U hU hW => hH.pre C0 hU hW⟩ rfl hn hsz rfl (lv_room hrest) hdg hcs
  intro T0 hT X
  obtain ⟨v', st₀, t, T', L, h0, X', hL, e1, e2, ⟨hv, hP1, hF⟩, stp⟩ := hr T0 hT X
  cases hv
  obtain ⟨t2, a1, b1⟩ := kk t.heap (locs ++ L) (hH.call (T' := T') h0 rfl hL hP1 hF) (Nat.le_trans hz (h0 ▸ hF.1)) T' e1 X'
  exact ⟨t2, stp t2 a1, b1⟩
theorem csH {N : Nat} {index n maxL : Nat} {y : MethodName} {bytes : ByteArray} {hh : List (Nat × Nat × Nat × Nat)} {As : List Value} {stk : List Value} {z : Int} (C0 : Ct p s m args c g own cc nL) (hH : Hp g S s H locs) (hz : N ≤ H.size) (hM : LwH l g y bytes maxL hh As S z S') (hw : kwW own index y bytes maxL hh) (hy : kyn y n) (hR : 8 + 1 ≤ R.frames ∧ 8 + (maxL + 11) + 200 ≤ R.locals) (hcs : cells + 1 ≤ R.cells ∧ slots + 6 ≤ R.slots)
    (hn : As.length = n) (hsz : ls.size = nL) (hst : stk = As.reverse ++ rest) (hrest : (rest.map fun v => v.category).sum ≤ 8) (hdg : decode cc pc = .ok (.invokestatic index, 3))
    (kk : ∀ (H1 : Heap) (locs1 : List Loc), Hp g S' s H1 locs1 → N + 1 ≤ H1.size → W p l e R s m args below meth c H1 locs1 (cells + 1) (slots + 6) Q (F0 m (pc + 3) ls (.int (iI z) :: rest))) : W p l e R s m args below meth c H locs cells slots Q (F0 m pc ls stk) := by
  subst hst
  have hr := vx_runSW (R := R) (args := args) (e := e) (below := below) (meth := meth) (cells := cells) (slots := slots) (Ts := GL) (As := As) (rest := rest) (H := H) (locs := locs) (g := F0 m pc ls (As.reverse ++ rest)) ⟨C0.1, C0.2.1, C0.2.2.1, C0.2.2.2.1, fun w hw => C0.2.2.2.2.1.w hw⟩ hM
    ⟨⟨rfl, rfl, hR.1, hR.2, fun w hw2 a' U hW => by
      rw [List.mem_singleton] at hw2
      subst hw2
      exact word_at hW (good_of_word (List.mem_filter.mp hw.1).2) (C0.2.2.2.2.1.w (args := #[]) hw.1), List.mem_singleton.mpr rfl⟩, C0.2.2.2.2.1.w hw.1, C0.2.2.2.2.1.w hw.2.1, ⟨hy.1, hy.2.1⟩, kyn_len hy, C0.2.2.2.2.1.w hw.2.2.1, C0.2.2.2.2.1.w hw.2.2.2⟩ ⟨PreG.blind _ _ _, fun U hU hW => hH.pre C0 hU hW⟩ rfl hn hsz rfl (lv_room hrest) hdg hcs
  intro T0 hT X
  obtain ⟨v', st₀, t, T', L, h0, X', hL, e1, e2, ⟨⟨hv, hP1, hF⟩, hgr⟩, stp⟩ := hr T0 hT X
  cases hv
  obtain ⟨t2, a1, b1⟩ := kk t.heap (locs ++ L) (hH.call (T' := T') h0 rfl hL hP1 hF) (Nat.le_trans (Nat.add_le_add_right hz 1) (h0 ▸ hgr)) T' e1 X'
  exact ⟨t2, stp t2 a1, b1⟩
/-- script[z] -/
theorem slG {b L : Nat} {xs : Nat → Int32} (C0 : Ct p s m args c g own cc nL) (hX : va_X b L xs s s.heap) (hbl : b < s.heap.size) (hbA : ¬ oA g b) (hL : L ≤ 2560) (hH : Hp g S s H locs) {z : Int} (h0 : 0 ≤ z) (h1 : z < L) (hdg : decode cc pc = .ok (.iaload, 1))
    (kk : W p l e R s m args below meth c H locs cells slots Q (F0 m (pc + 1) ls (.int (iI (xs z.toNat).toInt) :: rest))) : W p l e R s m args below meth c H locs cells slots Q (F0 m pc ls (.int (iI z) :: .ref b :: rest)) := by
  refine va_sld C0.1 C0.2.1 hX hbl hbA hH.2 (iI_in h0 h1 (by omega)) hdg ?_
  have e1 := iI_cl h0 (by omega)
  rw [show (iI z).toNatClampNeg = z.toNat by omega, ← iI_of (xs z.toNat)]
  exact kk
end RH
set_option maxRecDepth 100000 in
set_option maxHeartbeats 4000000 in
theorem h1_X6_undo (l : Launch) (g : gT) (S : gSt) (hh0 : 0 ≤ S 17 0 ∧ S 17 0 < 30) (hh1 : 0 ≤ S 17 1 ∧ S 17 1 ≤ 30) (hkp : S 17 1 = 0) (hfl : l.stackTraces = false) : ThrH l g yX6_undo cX6_undo 1 (some .int) 6 85 [.ref (g.1 0)] S "java/lang/IllegalStateException" S := by
  refine bodyH (by decide +kernel) (Nat.le_of_ble_eq_true rfl) ?_
  intro p e s m args below meth c ls C0 htab hlk hl hH
  have zx := C0.1
  have zb := C0.2.1
  have hl : lv_has ls 1 [(0, .ref (g.1 0))] := hl
  obtain ⟨H, hHe⟩ : ∃ H : Heap, H = s.heap := ⟨_, rfl⟩
  rw [show (Hp g S s s.heap []) = Hp g S s H [] by rw [hHe]] at hH
  rw [← hHe]
  refine lv_aload_n zx zb dX6_undo_0 rfl (lv_at hl 0 rfl) ?_
  refine gf_X6_40 C0 hH dX6_undo_1 ?_
  refine gf_X6_140 C0 hH dX6_undo_4 ?_
  refine bz_gt (tgt := 20) zx zb dX6_undo_7 (by decide) ⟨by omega, by omega⟩ (fun zq7 => ?_) (fun zq7 => ?_)
  · exact absurd zq7 (by omega)
  · exact thH (text := "nothing is left to undo") (names := ["java/lang/RuntimeException", "java/lang/Exception"]) hfl C0 htab hlk hH rfl (by decide +kernel) (by decide +kernel) (gm 259 (by decide +kernel) rfl) (gm 30 (by decide +kernel) rfl) (List.mem_of_getElem? (i := 533) (by decide +kernel)) (atS_ISE C0.2.2.2.2.1) gdS_ISE hl.1 dX6_undo_10 dX6_undo_13 dX6_undo_14 dX6_undo_16 dX6_undo_19 (by decide) (Nat.le_of_ble_eq_true rfl) (by decide) (by decide)
set_option maxRecDepth 100000 in
set_option maxHeartbeats 4000000 in
theorem wh_undoes (l : Launch) (g : gT) (S : gSt) (hh0 : 0 ≤ S 17 0 ∧ S 17 0 < 30) (hh1 : 0 ≤ S 17 1 ∧ S 17 1 ≤ 30) (hkp : S 17 1 = 0) (hfl : l.stackTraces = false) : LwH l g yL_undoes cL_undoes 2 [(0, 4, 5, 15)] [.ref (g.1 0)] S (-3) S := by
  refine bodyV (by decide +kernel) (Nat.le_of_ble_eq_true rfl) ?_
  intro p e s m args below meth c ls C0 hret htab hlk hl hH
  have zx := C0.1
  have zb := C0.2.1
  have hl : lv_has ls 2 [(0, .ref (g.1 0))] := hl
  obtain ⟨H, hHe⟩ : ∃ H : Heap, H = s.heap := ⟨_, rfl⟩
  rw [show (Hp g S s s.heap []) = Hp g S s H [] by rw [hHe]] at hH
  rw [← hHe]
  refine lv_aload_n zx zb dL_undoes_0 rfl (lv_at hl 0 rfl) ?_
  refine ctH (E := "java/lang/IllegalStateException") (name := "java/lang/IllegalStateException") (rest := []) (As := []) (b := g.1 0) C0 hH (h1_X6_undo l g S hh0 hh1 hkp hfl) kw_L_17 ky_X6_undo ⟨Nat.le_of_ble_eq_true rfl, Nat.le_of_ble_eq_true rfl⟩ ⟨Nat.le_of_ble_eq_true rfl, Nat.le_of_ble_eq_true rfl⟩ 0 rfl rfl rfl hl.1 rfl (Nat.le_of_ble_eq_true rfl) dL_undoes_1 [] (⟨0, 4, 5, 15⟩ : ExceptionTableEntry) [] htab (fun _ h => absurd h List.not_mem_nil) (by decide) (by decide) (C0.2.2.2.2.1.w (gm 504 (by decide +kernel) rfl)) (C0.2.2.2.2.1.n (nmm 261 (by decide +kernel) rfl)) (fun q H1 locs hH1 hz => ?_)
  refine lv_astore_n zx zb dL_undoes_5 rfl hl (by decide) rfl (fun ls hl => ?_)
  refine bi_bip (n := (-3)) zx zb dL_undoes_6 (by decide) ?_
  exact retH C0 hret hlk hH1 (by rw [← hHe]; exact hz) dL_undoes_8
theorem kwW_undoes : kwW RL 104 yL_undoes cL_undoes 2 [(0, 4, 5, 15)] := ⟨gm 528 (by decide +kernel) rfl, gm 16 (by decide +kernel) rfl, gm 526 (by decide +kernel) rfl, gm 527 (by decide +kernel) rfl⟩
