/-! ===== the law's own methods: they catch ===== -/
section LB
variable {l : Launch} {g : gT} {y : MethodName} {cc : ByteArray} {nL : Nat} {av : List Value} {S S' : gSt}
/-- a method of the law: it returns the number z, S becomes S', at most one new object of six slots -/
def LwM (l : Launch) (g : gT) (y : MethodName) (cc : ByteArray) (nL : Nat) (hh : List (Nat × Nat × Nat × Nat)) (av : List Value) (S : gSt) (z : Int) (S' : gSt) : Prop :=
  Met l y [.codeWith y cc nL (some .int) hh] { frames := 8, cells := 1, slots := 6, locals := 200 } (PreG g av S) (RetG g (some (.int (iI z))) S') 1 6 (oA g)
theorem bodyW {hh : List (Nat × Nat × Nat × Nat)} {z : Int} (hy : plainName y.cls = true) (hlen : (lg_sl av).length ≤ nL)
    (h : ∀ (p : Program) (e : Env) (s : State) (m : MethodId) (args : Array Value) (below : List Frame) (meth : Method) (c : Code) (ls : Array Slot), Ct p s m args c g y.cls cc nL → meth.sig.returnType = some .int → c.exceptionTable.toList = tableOf hh → meth.locks = false → lv_has ls nL (lv_args 0 av) → Hp g S s s.heap [] →
      W p l e { frames := 8, cells := 1, slots := 6, locals := 200 } s m args below meth c s.heap [] 0 0 (MQ below (RetG g (some (.int (iI z))) S') args s 1 6 (oA g)) (F0 m 0 ls [])) : LwM l g y cc nL hh av S z S' := by
  unfold LwM
  refine MetFree.of_bodyS (code := cc) (maxLocals := nL) (ret := some .int) hy ?_ ?_
  · intro args s m h hn
    obtain ⟨m9, meth, c, hn9, h1, h2, h3, h4, -, h5, h6, -⟩ := Cond.codeWith_spec (atoms_spec (ws := [Cond.codeWith y cc nL (some .int) hh]) h _ List.mem_cons_self)
    cases hn.symm.trans hn9
    exact ⟨meth, c, h1, h2, h3, h4, h5, h6⟩
  · intro p e s m args below meth c s₁ B hml hP _
    have hh0 : s₁.heap = s.heap := by rw [B.state]; rfl
    obtain ⟨rfl, hG, hZ, hP⟩ := hP
    have hl := lv_entry av (n := nL) hlen
    have ht := vx_table (x := y) B (atoms_spec (ws := [Cond.codeWith y cc nL (some .int) hh]) B.pre _ List.mem_cons_self)
    have K := h p e s m av.toArray below meth c _ ⟨B.exec, B.bytes, hml, findClass_of_methodNamed B.named, hG, hZ⟩ B.returns ht B.notSynchronized hl ⟨hP, va_S.rf⟩
    rw [← lg_entry_eq] at K
    obtain ⟨t, a1, o, b1, b2, b3⟩ := K s₁ hh0 (Stand.of_body B)
    exact ⟨t, o, a1, b1, b2, ⟨b3.1, b3.2⟩⟩
end LB
section LR
variable {p : Program} {l : Launch} {e : Env} {R : Room} {s : State} {m : MethodId} {args : Array Value} {below : List Frame} {meth : Method} {c : Code} {H : Heap} {locs : List Loc} {cells slots : Nat} {Q : State → Prop}
variable {g : gT} {own : String} {cc : ByteArray} {nL : Nat} {S S' : gSt} {pc : Nat} {ls : Array Slot} {rest : List Value}
theorem upd_udL (f : Int → Int) (x : Int) : vp_updL (fun j : Nat => (iI (f j)).toInt64) (iI 0).toNatClampNeg (iI x).toInt64 = fun j : Nat => (iI (ud f 0 x j)).toInt64 := by
  funext j
  have hc : (iI 0).toNatClampNeg = 0 := by decide
  rw [hc]
  by_cases h : j = 0
  · subst h
    show (if (0 : Nat) = 0 then _ else _) = _
    rw [if_pos rfl]
    show _ = (iI (ud f 0 x 0)).toInt64
    rw [ud_s]
  · have h2 : (j : Int) ≠ 0 := by omega
    show (if _ then _ else _) = _
    rw [if_neg h, ud_n h2]
/-- out[0] = x -/
theorem lsG (C0 : Ct p s m args c g own cc nL) (hH : Hp g S s H locs) {x : Int} (hdg : decode cc pc = .ok (.lastore, 1))
    (kk : ∀ (H1 : Heap) (locs1 : List Loc), Hp g (st S 33 0 x) s H1 locs1 → W p l e R s m args below meth c H1 locs1 cells slots Q (F0 m (pc + 1) ls rest)) : W p l e R s m args below meth c H locs cells slots Q (F0 m pc ls (.long (iI x).toInt64 :: .int (iI 0) :: .ref (g.1 33) :: rest)) := by
  have hw : (Wl g S)[33]? = some (g.1 33, .inl (g.2.2.2.1, 1, .inr (.inl (fun j : Nat => (iI (S 33 j)).toInt64)))) := rfl
  refine va_last C0.1 C0.2.1 C0.2.2.2.2.1.k hH.1 (C0.2.2.2.2.1.dd S) hH.2 33 1 hw rfl (iI_in (Int.le_refl 0) (by decide) (by decide)) hdg (fun H1 locs1 h2 _ h4 => kk H1 locs1 ⟨?_, h4⟩)
  rw [upd_udL] at h2
  exact h2
/-- out[0] -/
theorem llG (C0 : Ct p s m args c g own cc nL) (hH : Hp g S s H locs) (hdg : decode cc pc = .ok (.laload, 1))
    (kk : W p l e R s m args below meth c H locs cells slots Q (F0 m (pc + 1) ls (.long (iI (S 33 0)).toInt64 :: rest))) : W p l e R s m args below meth c H locs cells slots Q (F0 m pc ls (.int (iI 0) :: .ref (g.1 33) :: rest)) := by
  have hw : (Wl g S)[33]? = some (g.1 33, .inl (g.2.2.2.1, 1, .inr (.inl (fun j : Nat => (iI (S 33 j)).toInt64)))) := rfl
  refine va_lald C0.1 C0.2.1 C0.2.2.2.2.1.k hH.1 33 1 hw rfl (iI_in (Int.le_refl 0) (by decide) (by decide)) hdg ?_
  exact kk
theorem retW (C : Ct p s m args c g own cc nL) (hr : meth.sig.returnType = some .int) (hk : meth.locks = false) (hH : Hp g S s H locs) {r : Int} (hdg : decode cc pc = .ok (.ireturn, 1)) :
    W p l e R s m args below meth c H locs 1 6 (MQ below (RetG g (some (.int (iI r))) S) args s 1 6 (oA g)) (F0 m pc ls [.int (iI r)]) :=
  W.iret C.1 C.2.1 hr (fun t ht hW => ⟨rfl, by rw [ht]; exact hH.1, hH.2.F ht⟩) hH.2.2.2 hdg hk
theorem retW0 (C : Ct p s m args c g own cc nL) (hr : meth.sig.returnType = some .int) (hk : meth.locks = false) (hH : Hp g S s H locs) {r : Int} (hdg : decode cc pc = .ok (.ireturn, 1)) :
    W p l e R s m args below meth c H locs 0 0 (MQ below (RetG g (some (.int (iI r))) S) args s 1 6 (oA g)) (F0 m pc ls [.int (iI r)]) :=
  W.widen (Nat.zero_le 1) (Nat.zero_le 6) (retW C hr hk hH hdg)
variable {index n maxL fr lo : Nat} {y : MethodName} {bytes : ByteArray} {ret : Option FieldType} {As : List Value} {stk : List Value} {b : Nat}
/-- a callee that throws, caught here -/
theorem ctG {E name : String} (C0 : Ct p s m args c g own cc nL) (hH : Hp g S s H locs) (hM : ThrG l g y bytes maxL ret fr lo (.ref b :: As) S E S') (hw : kwV own index y bytes maxL ret) (hy : kyn y n) (hR : fr + 1 ≤ R.frames ∧ 8 + (maxL + 11) + lo ≤ R.locals) (hcs : 0 + 1 ≤ R.cells ∧ 0 + 6 ≤ R.slots)
    (k : Nat) {ci N : Nat} {T : u_T} {fs : List Value} (he : (Wl g S)[k]? = some (b, .inr (ci, fs))) (hc : vwCl[ci]? = some (y.cls, T, N)) (hn : As.length = n) (hsz : ls.size = nL) (hst : stk = As.reverse ++ .ref b :: rest) (hrest : (rest.map fun v => v.category).sum ≤ 8) (hdg : decode cc pc = .ok (.invokevirtual index, 3))
    (pre : List ExceptionTableEntry) (x : ExceptionTableEntry) (suf : List ExceptionTableEntry) (hsplit : c.exceptionTable.toList = pre ++ x :: suf)
    (hpass : ∀ z ∈ pre, covers z pc = false ∨ (z.catchType ≠ 0 ∧ ∃ nm : String, (Cond.classLink own z.catchType nm).before args s = true ∧ va_Nc E nm s)) (hx : covers x pc = true) (h0 : x.catchType ≠ 0)
    (hlink : (Cond.classLink own x.catchType name).before args s = true) (hcast : (Cond.castable E name).before args s = true)
    (kk : ∀ (q : Nat) (H1 : Heap) (locs1 : List Loc), Hp g S' s H1 locs1 → W p l e R s m args below meth c H1 locs1 1 6 Q (F0 m x.handlerPc ls [.ref q])) :
    W p l e R s m args below meth c H locs 0 0 Q (F0 m pc ls stk) := by
  subst hst
  have hr := vx_runV (R := R) (args := args) (e := e) (below := below) (meth := meth) (cells := 0) (slots := 0) (Ts := GL) (C := y.cls) (b := b) (As := As) (rest := rest) (H := H) (locs := locs) (g := F0 m pc ls (As.reverse ++ .ref b :: rest)) ⟨C0.1, C0.2.1, C0.2.2.1, C0.2.2.2.1, fun w hw => C0.2.2.2.2.1.w hw⟩ hM
    ⟨cbG C0.2.2.2.2.1 hw.1 hw.2.2.2.1 hw.2.2.2.2 hy rfl rfl hR, C0.2.2.2.2.1.w hw.2.1, C0.2.2.2.2.1.w hw.2.2.1⟩ ⟨PreG.blind _ _ _, va_recv C0.2.2.2.2.1.k hH.1 hc he, fun U hU hW => hH.pre C0 hU hW⟩ rfl hn hsz rfl (lv_room hrest) hdg hcs
  intro T0 hT X
  rcases hr T0 hT X with ⟨v, st₀, t, T', L, h0, X', hL, e1, e2, hq, stp⟩ | ⟨q, st₀, t, T', L, E', ce, h0', X', hL, e1, e2, ⟨rfl, hP1, hF⟩, hce, hcv, hcl, stp⟩
  · exact hq.elim
  · have h5 := hH.call (T' := T') h0' rfl hL hP1 hF
    obtain ⟨t2, a1, b1⟩ := vx_catch (pc := pc) (ls := ls) (rest := rest) (q := q) (E := E') (ce := ce) (Q := Q) C0.2.2.2.1 pre x suf hsplit hpass hx h0 hlink hcast hce hcv hcl (kk q t.heap (locs ++ L) h5) T' e1 X'
    exact ⟨t2, stp.trans a1, b1⟩
end LR
