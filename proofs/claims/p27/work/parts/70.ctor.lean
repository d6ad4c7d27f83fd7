/-! ===== constructors: the world grows ===== -/
def GP (g : gT) (U : State) : Prop := (∀ w ∈ GL, w.before #[] U = true) ∧ (∀ w ∈ NL, va_Nw w U) ∧ va_K g.2.1 vwCl [(g.2.2.1, .int), (g.2.2.2.1, .long)] U
theorem GP.w {g : gT} {s : State} {args : Array Value} {w : Cond} (h : GP g s) (hw : w ∈ GL) : w.before args s = true :=
  word_at (State.WarmedH.refl s) (good_of_word (List.mem_filter.mp hw).2) (h.1 w hw)
theorem GP.moved {g : gT} {s U : State} (hW : s.WarmedH U.vm) (h : GP g s) : GP g U :=
  ⟨fun w hw => word_at hW (good_of_word (List.mem_filter.mp hw).2) (h.1 w hw), fun w hw => nest_warm (List.mem_filter.mp hw).2 hW (h.2.1 w hw), va_K.moved hW.alike h.2.2⟩
def PreC (g : gT) (av : List Value) (A0 : Nat → Prop) (ws : va_W) : Array Value → State → Prop := va_Pc av (fun U => GP g U ∧ va_P g.2.1 vwCl ws U.heap ∧ va_D A0 ws ∧ ∀ q : Nat, U.heap.size ≤ q → A0 q)
def RetC (g : gT) (A0 : Nat → Prop) (B : va_W → Prop) : Array Value → State → Outcome → State → Prop := fun _ st o t => o = .returned none ∧ (∃ w, B w ∧ va_P g.2.1 vwCl w t.heap ∧ va_D A0 w) ∧ va_F A0 st t
def MetC (l : Launch) (g : gT) (y : MethodName) (cc : ByteArray) (nL : Nat) (fr lo mc ms : Nat) (av : List Value) (A0 : Nat → Prop) (ws : va_W) (B : va_W → Prop) : Prop :=
  Met l y [.code y cc nL none] { frames := fr, cells := mc, slots := ms, locals := lo } (PreC g av A0 ws) (RetC g A0 B) mc ms A0
theorem PreC.blind (g : gT) (av : List Value) (A0 : Nat → Prop) (ws : va_W) : FrameBlind (PreC g av A0 ws) := by
  intro a U gf mk q
  obtain ⟨q0, q1, q2, q3, q4⟩ := q
  exact ⟨q0, GP.moved (s := U) (U := U.calling gf mk a) (State.WarmedH.refl U) q1, q2, q3, q4⟩
def Cc (p : Program) (s : State) (m : MethodId) (c : Code) (g : gT) (own : String) (cc : ByteArray) (nL : Nat) : Prop :=
  p.tables.exec = Jvm.exec ∧ c.code = cc ∧ c.maxLocals = nL ∧ s.vm.findClass own = some m.cls ∧ GP g s
def Hc (g : gT) (A0 : Nat → Prop) (ws : va_W) (s : State) (H : Heap) (locs : List Loc) : Prop := va_P g.2.1 vwCl ws H ∧ va_D A0 ws ∧ va_S A0 s.heap H locs ∧ ∀ q : Nat, s.heap.size ≤ q → A0 q
section CB
variable {l : Launch} {g : gT} {y : MethodName} {cc : ByteArray} {nL fr lo mc ms : Nat} {av : List Value} {A0 : Nat → Prop} {ws : va_W} {B : va_W → Prop}
theorem bodyC (hy : plainFor y = true) (hlen : (lg_sl av).length ≤ nL)
    (h : ∀ (p : Program) (e : Env) (s : State) (m : MethodId) (args : Array Value) (below : List Frame) (meth : Method) (c : Code) (ls : Array Slot), Cc p s m c g y.cls cc nL → meth.sig.returnType = none → meth.locks = false → meth.name = y.name → lv_has ls nL (lv_args 0 av) → Hc g A0 ws s s.heap [] →
      W p l e { frames := fr, cells := mc, slots := ms, locals := lo } s m args below meth c s.heap [] 0 0 (MQ below (RetC g A0 B) args s mc ms A0) (F0 m 0 ls [])) : MetC l g y cc nL fr lo mc ms av A0 ws B := by
  refine ofWF (cc := cc) (nL := nL) (ret := none) hy rfl ?_
  intro p e s m args below meth c s₁ B hml hv
  obtain ⟨rfl, hG, hP, hD, hA⟩ := hv
  have hl := lv_entry av (n := nL) hlen
  rw [lg_entry_eq]
  exact h p e s m _ below meth c _ ⟨B.exec, B.bytes, hml, findClass_of_methodNamed B.named, hG⟩ B.returns B.notSynchronized (name_of_methodNamed B.named B.method).1 hl ⟨hP, hD, va_S.rf, hA⟩
end CB
theorem len_at {α : Type} (wr : List α) (x : α) (t : List α) : (wr ++ x :: t)[wr.length]? = some x := by
  rw [List.getElem?_append_right (Nat.le_refl _), Nat.sub_self]; rfl
theorem len_set {α : Type} (wr : List α) (x y : α) (t : List α) : (wr ++ x :: t).set wr.length y = wr ++ y :: t := by
  rw [List.set_append_right _ _ (Nat.le_refl _), Nat.sub_self]; rfl
section CR
variable {p : Program} {l : Launch} {e : Env} {R : Room} {s : State} {m : MethodId} {args : Array Value} {below : List Frame} {meth : Method} {c : Code} {H : Heap} {locs : List Loc} {cells slots : Nat} {Q : State → Prop}
variable {g : gT} {own : String} {cc : ByteArray} {nL : Nat} {A0 : Nat → Prop} {ws wr tl : va_W} {pc : Nat} {ls : Array Slot} {rest : List Value}
theorem oiC (C0 : Cc p s m c g own cc nL) {ix a : Nat} (hk : Cond.methodLink own ix Lib.objectInit ∈ GL) (hsz : ls.size = nL) (hd : decode cc pc = .ok (.invokespecial ix, 3)) (hf : 1 ≤ R.frames) (hlo : 20 ≤ R.locals)
    (kk : W p l e R s m args below meth c H locs cells slots Q (F0 m (pc + 3) ls [])) : W p l e R s m args below meth c H locs cells slots Q (F0 m pc ls [.ref a]) :=
  W.objInit C0.1 C0.2.1 C0.2.2.2.1 (C0.2.2.2.2.w hk) (C0.2.2.2.2.w (gm 39 (by decide +kernel) rfl)) (C0.2.2.2.2.w (gm 40 (by decide +kernel) rfl)) rfl (by rw [C0.2.2.1]; exact hsz) rfl hd hf (by show 2 * 0 + 0 + 12 ≤ R.locals; omega) kk
/-- new int[n] -/
theorem naC (C0 : Cc p s m c g own cc nL) (hH : Hc g A0 ws s H locs) {n : Nat} (hn : n ≤ 1000) (hcells : cells + 1 ≤ R.cells) (hslots : slots + n ≤ R.slots) (hdg : decode cc pc = .ok (.newarray .int, 2))
    (kk : ∀ (q : Nat) (H1 : Heap), Hc g A0 (ws ++ [(q, .inl (g.2.2.1, n, .inl (fun _ : Nat => iI 0)))]) s H1 locs → W p l e R s m args below meth c H1 locs (cells + 1) (slots + n) Q (F0 m (pc + 2) ls (.ref q :: rest))) : W p l e R s m args below meth c H locs cells slots Q (F0 m pc ls (.int (iI n) :: rest)) := by
  have e1 : (iI (n : Int)).toNatClampNeg = n := by have := iI_cl (z := (n : Int)) (by omega) (by omega); omega
  have e2 : ¬ iI (n : Int) < 0 := by rw [iI_0, iI_lt ⟨by omega, by omega⟩ rg0]; omega
  refine va_newa (ty := .int) (a0 := (n, .inl (fun _ : Nat => iI 0))) C0.1 C0.2.1 (C0.2.2.2.2.w (gm 60 (by decide +kernel) rfl)) rfl C0.2.2.2.2.2.2 hH.1 hH.2.1 hH.2.2.1 hH.2.2.2 (fun cA => rfl) e2 e1 (by show n * 4 ≤ 536870912; omega) hcells hslots hdg (fun q cA H1 hK hP hD hS => ?_)
  have k1 : s.vm.findClass ("[" ++ FieldType.int.toString) = some cA := (hK.2 2 (cA, .int) rfl).2
  have k2 : s.vm.findClass ("[" ++ FieldType.int.toString) = some g.2.2.1 := (C0.2.2.2.2.2.2.2 0 (g.2.2.1, .int) rfl).2
  have k3 : cA = g.2.2.1 := Option.some.inj (k1.symm.trans k2)
  subst k3
  exact kk q H1 ⟨hP, hD, hS, hH.2.2.2⟩
/-- new long[64] -/
theorem nlC (C0 : Cc p s m c g own cc nL) (hH : Hc g A0 ws s H locs) (hcells : cells + 1 ≤ R.cells) (hslots : slots + 64 ≤ R.slots) (hdg : decode cc pc = .ok (.newarray .long, 2))
    (kk : ∀ (q : Nat) (H1 : Heap), Hc g A0 (ws ++ [(q, .inl (g.2.2.2.1, 64, .inr (.inl (fun _ : Nat => (iI 0).toInt64))))]) s H1 locs → W p l e R s m args below meth c H1 locs (cells + 1) (slots + 64) Q (F0 m (pc + 2) ls (.ref q :: rest))) : W p l e R s m args below meth c H locs cells slots Q (F0 m pc ls (.int (iI 64) :: rest)) := by
  refine va_newa (N' := 64) (ty := .long) (a0 := (64, .inr (.inl (fun _ : Nat => (iI 0).toInt64)))) C0.1 C0.2.1 (C0.2.2.2.2.w (gm 589 (by decide +kernel) rfl)) rfl C0.2.2.2.2.2.2 hH.1 hH.2.1 hH.2.2.1 hH.2.2.2 (fun cA => rfl) (by decide) (by decide) (by decide) hcells hslots hdg (fun q cA H1 hK hP hD hS => ?_)
  have k1 : s.vm.findClass ("[" ++ FieldType.long.toString) = some cA := (hK.2 2 (cA, .long) rfl).2
  have k2 : s.vm.findClass ("[" ++ FieldType.long.toString) = some g.2.2.2.1 := (C0.2.2.2.2.2.2.2 1 (g.2.2.2.1, .long) rfl).2
  have k3 : cA = g.2.2.2.1 := Option.some.inj (k1.symm.trans k2)
  subst k3
  exact kk q H1 ⟨hP, hD, hS, hH.2.2.2⟩
/-- a final field of the new object -/
theorem pfC {C : String} {T : u_T} {N ci index a : Nat} (C0 : Cc p s m c g own cc nL) (hin : meth.name = "<init>") {fs : List Value} (hH : Hc g A0 (wr ++ (a, .inr (ci, fs)) :: tl) s H locs) (hc : vwCl[ci]? = some (C, T, N)) (hinw : ∀ w ∈ u_ws C T N, w ∈ GL) (ty0 : Nat → FieldType) (hty : ∀ k, k < N → parseFieldDescriptor (T k).2.2.1 = some (ty0 k)) (hnm : ∀ a, a < N → ∀ b, b < N → a ≠ b → (T a).2.1 ≠ (T b).2.1) (k : Nat) (hk : k < N)
    (hlink : Cond.fieldLink own index own (T k).2.1 (T k).2.2.1 ∈ GL) (hfin : (T k).2.2.2 = true) (hdecl : (T k).1 = own) {ty : FieldType} {v : Value} (hd : parseFieldDescriptor (T k).2.2.1 = some ty) (hn : narrow ty v = v) (hfit : fits ty v = true) (hl : k < fs.length) (hdg : decode cc pc = .ok (.putfield index, 3))
    (kk : ∀ (H1 : Heap) (locs1 : List Loc), Hc g A0 (wr ++ (a, .inr (ci, fs.set k v)) :: tl) s H1 locs1 → W p l e R s m args below meth c H1 locs1 cells slots Q (F0 m (pc + 3) ls rest)) : W p l e R s m args below meth c H locs cells slots Q (F0 m pc ls (v :: .ref a :: rest)) := by
  refine va_putF (Ts := GL) (own := own) (ref := own) (C := C) (T := T) (N := N) (ci := ci) C0.1 C0.2.1 (fun w hw => C0.2.2.2.2.w hw) hinw ty0 hty hnm C0.2.2.2.1 C0.2.2.2.2.2.2 hH.1 hH.2.1 hH.2.2.1 wr.length (len_at _ _ _) hc k hk (C0.2.2.2.2.w hlink) (fun _ h => by rw [hdecl] at h; exact h) hfin hin hdecl hd hn hfit hl hdg (fun H1 locs1 h1 h2 h3 => kk H1 locs1 ⟨?_, ?_, h3, hH.2.2.2⟩)
  · rw [len_set] at h1; exact h1
  · rw [len_set] at h2; exact h2
/-- new C -/
theorem nwC {C : String} {T : u_T} {N ci index : Nat} (C0 : Cc p s m c g own cc nL) (hH : Hc g A0 ws s H locs) (hc : vwCl[ci]? = some (C, T, N)) (hinw : ∀ w ∈ u_ws C T N, w ∈ GL) (ty : Nat → FieldType) (hty : ∀ k, k < N → parseFieldDescriptor (T k).2.2.1 = some (ty k)) (hcl : Cond.classLink own index C ∈ GL) (hinst : Cond.instantiable C N ∈ GL) (hini : Cond.initialized C ∈ GL)
    {fs : List Value} (hfs : ∀ j, j < N → defaultValue (ty j) = vp_V fs j) (hcells : cells + 1 ≤ R.cells) (hslots : slots + N ≤ R.slots) (hdg : decode cc pc = .ok (.new index, 3))
    (kk : ∀ (q : Nat) (H1 : Heap), Hc g A0 (ws ++ [(q, .inr (ci, fs))]) s H1 locs → W p l e R s m args below meth c H1 locs (cells + 1) (slots + N) Q (F0 m (pc + 3) ls (.ref q :: rest))) : W p l e R s m args below meth c H locs cells slots Q (F0 m pc ls rest) :=
  va_new (Ts := GL) (T := T) C0.1 C0.2.1 (fun w hw => C0.2.2.2.2.w hw) hinw ty hty C0.2.2.2.1 (C0.2.2.2.2.w hcl) (C0.2.2.2.2.w hinst) (C0.2.2.2.2.w hini) C0.2.2.2.2.2.2 hH.1 hH.2.1 hH.2.2.1 hH.2.2.2 hc hfs hcells hslots hdg (fun q H1 hP hD hS => kk q H1 ⟨hP, hD, hS, hH.2.2.2⟩)
theorem rtC {B : va_W → Prop} {mc ms : Nat} (C0 : Cc p s m c g own cc nL) (hr : meth.sig.returnType = none) (hlk : meth.locks = false) (hH : Hc g A0 ws s H locs) (hB : B ws) (hdg : decode cc pc = .ok (.return_, 1)) :
    W p l e R s m args below meth c H locs mc ms (MQ below (RetC g A0 B) args s mc ms A0) (F0 m pc ls []) :=
  W.vret C0.1 C0.2.1 hr (fun t ht hW => ⟨rfl, ⟨ws, hB, by rw [ht]; exact hH.1, hH.2.1⟩, hH.2.2.1.F ht⟩) hH.2.2.1.2.2 hdg hlk
variable {index maxL fr lo mc ms : Nat} {y : MethodName} {bytes : ByteArray} {b : Nat} {B : va_W → Prop} {As : List Value}
theorem Hc.pre {av : List Value} {U : State} (C0 : Cc p s m c g own cc nL) (hH : Hc g A0 ws s H locs) (hU : U.heap = H) (hW : s.WarmedH U.vm) : PreC g av A0 ws av.toArray U :=
  ⟨rfl, GP.moved hW C0.2.2.2.2, by rw [hU]; exact hH.1, hH.2.1, by rw [hU]; exact fun q h => hH.2.2.2 q (Nat.le_trans hH.2.2.1.1 h)⟩
theorem Hc.call {st₀ t : State} {L : List Loc} {w : va_W} (hH : Hc g A0 ws s H locs) (h0 : st₀.heap = H) (hL : ∀ q ∈ L, A0 q.base) (hP : va_P g.2.1 vwCl w t.heap) (hD : va_D A0 w) (hF : va_F A0 st₀ t) : Hc g A0 w s t.heap (locs ++ L) := by
  subst h0
  refine ⟨hP, hD, ⟨Nat.le_trans hH.2.2.1.1 hF.1, fun q hq hA => (hF.2 q (Nat.lt_of_lt_of_le hq hH.2.2.1.1) hA).trans (hH.2.2.1.2.1 q hq hA), fun q hq => ?_⟩, hH.2.2.2⟩
  rcases List.mem_append.mp hq with h | h
  · exact hH.2.2.1.2.2 q h
  · exact hL q h
def kwC (y : MethodName) (bytes : ByteArray) (maxL : Nat) : Prop := Cond.instanceMethod y ∈ GL ∧ Cond.code y bytes maxL none ∈ GL ∧ Cond.initialized y.cls ∈ GL
/-- a constructor's call -/
theorem ccC (C0 : Cc p s m c g own cc nL) (hH : Hc g A0 ws s H locs) (hM : MetC l g y bytes maxL fr lo mc ms [.ref b] A0 ws B) (hl : (Cond.methodLink own index y).before args s = true) (hw : kwC y bytes maxL) (hy : kyn y 0) (hyi : y.name = "<init>") (hR : fr + 1 ≤ R.frames ∧ 8 + (maxL + 11) + lo ≤ R.locals) (hcs : cells + mc ≤ R.cells ∧ slots + ms ≤ R.slots)
    (hsz : ls.size = nL) (hrest : (rest.map fun v => v.category).sum ≤ 8) (hdg : decode cc pc = .ok (.invokespecial index, 3))
    (kk : ∀ (w : va_W) (H1 : Heap) (locs1 : List Loc), B w → Hc g A0 w s H1 locs1 → W p l e R s m args below meth c H1 locs1 (cells + mc) (slots + ms) Q (F0 m (pc + 3) ls rest)) : W p l e R s m args below meth c H locs cells slots Q (F0 m pc ls (.ref b :: rest)) := by
  have hr := va_runI (R := R) (args := args) (e := e) (below := below) (meth := meth) (cells := cells) (slots := slots) (Ts := GL) (b := b) (As := []) (rest := rest) (H := H) (locs := locs) (g := F0 m pc ls (.ref b :: rest)) ⟨C0.1, C0.2.1, C0.2.2.1, C0.2.2.2.1, fun w hw => C0.2.2.2.2.w hw⟩ hM
    ⟨⟨rfl, rfl, hR.1, hR.2, fun w hw2 a' U hW => by
      rw [List.mem_singleton] at hw2
      subst hw2
      exact word_at hW (good_of_word (List.mem_filter.mp hw.2.1).2) (C0.2.2.2.2.w (args := #[]) hw.2.1), List.mem_singleton.mpr rfl, C0.2.2.2.2.w hw.2.1, C0.2.2.2.2.w hw.2.2, ⟨hy.1, hy.2.1⟩, kyn_len hy, hl⟩, hyi, C0.2.2.2.2.w hw.1⟩ ⟨PreC.blind _ _ _ _, fun U hU hW => hH.pre C0 hU hW⟩ rfl rfl hsz rfl (lv_room hrest) hdg hcs
  intro T0 hT X
  obtain ⟨v', st₀, t, T', L, h0, X', hL, e1, e2, ⟨hv, ⟨w, hB, hP1, hD1⟩, hF⟩, stp⟩ := hr T0 hT X
  cases hv
  obtain ⟨t2, a1, b1⟩ := kk w t.heap (locs ++ L) hB (hH.call h0 hL hP1 hD1 hF) T' e1 X'
  exact ⟨t2, stp t2 a1, b1⟩
theorem ccN {host : String} (C0 : Cc p s m c g own cc nL) (hH : Hc g A0 ws s H locs) (hM : MetC l g y bytes maxL fr lo mc ms [.ref b] A0 ws B) (hl : Cond.methodLinkNest own index y host ∈ NL) (hw : kwC y bytes maxL) (hy : kyn y 0) (hyi : y.name = "<init>") (hR : fr + 1 ≤ R.frames ∧ 8 + (maxL + 11) + lo ≤ R.locals) (hcs : cells + mc ≤ R.cells ∧ slots + ms ≤ R.slots)
    (hsz : ls.size = nL) (hrest : (rest.map fun v => v.category).sum ≤ 8) (hdg : decode cc pc = .ok (.invokespecial index, 3))
    (kk : ∀ (w : va_W) (H1 : Heap) (locs1 : List Loc), B w → Hc g A0 w s H1 locs1 → W p l e R s m args below meth c H1 locs1 (cells + mc) (slots + ms) Q (F0 m (pc + 3) ls rest)) : W p l e R s m args below meth c H locs cells slots Q (F0 m pc ls (.ref b :: rest)) := by
  have hr := va_runIN (R := R) (args := args) (e := e) (below := below) (meth := meth) (cells := cells) (slots := slots) (Ts := GL) (b := b) (As := []) (rest := rest) (H := H) (locs := locs) (host := host) (g := F0 m pc ls (.ref b :: rest)) ⟨C0.1, C0.2.1, C0.2.2.1, C0.2.2.2.1, fun w hw => C0.2.2.2.2.w hw⟩ hM
    ⟨⟨⟨rfl, rfl, hR.1, hR.2, fun w hw2 a' U hW => by
      rw [List.mem_singleton] at hw2
      subst hw2
      exact word_at hW (good_of_word (List.mem_filter.mp hw.2.1).2) (C0.2.2.2.2.w (args := #[]) hw.2.1), List.mem_singleton.mpr rfl⟩, C0.2.2.2.2.w hw.2.1, C0.2.2.2.2.w hw.2.2, ⟨hy.1, hy.2.1⟩, kyn_len hy, va_Nw.use rfl (C0.2.2.2.2.2.1 _ hl)⟩, hyi, C0.2.2.2.2.w hw.1⟩ ⟨PreC.blind _ _ _ _, fun U hU hW => hH.pre C0 hU hW⟩ rfl rfl hsz rfl (lv_room hrest) hdg hcs
  intro T0 hT X
  obtain ⟨v', st₀, t, T', L, h0, X', hL, e1, e2, ⟨hv, ⟨w, hB, hP1, hD1⟩, hF⟩, stp⟩ := hr T0 hT X
  cases hv
  obtain ⟨t2, a1, b1⟩ := kk w t.heap (locs ++ L) hB (hH.call h0 hL hP1 hD1 hF) T' e1 X'
  exact ⟨t2, stp t2 a1, b1⟩
end CR
