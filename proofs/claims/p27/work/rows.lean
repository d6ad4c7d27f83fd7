section
-- ===== PART A: goes FIRST, ahead of the names: the tables' words, and 'selects' of the private methods out of them =====
/-- a private method of a class that the tables say can be made, by its rows of tables_1 -/
def lw_okq (q : MethodName × Nat) : Prop := (q.1.cls ≠ "java/lang/invoke/MethodHandle" ∧ q.1.cls ≠ "java/lang/invoke/VarHandle") ∧ Cond.instantiable q.1.cls q.2 ∈ tables_1 ∧ Cond.privateMethod q.1 ∈ tables_1 ∧ Cond.instanceMethod q.1 ∈ tables_1
theorem lw_p0 : lw_okq (⟨"java/lang/Throwable", "fillInStackTrace", "(I)Ljava/lang/Throwable;"⟩, 6) := ⟨⟨by decide +kernel, by decide +kernel⟩, List.mem_of_getElem? (i := 213) (by decide +kernel), List.mem_of_getElem? (i := 211) (by decide +kernel), List.mem_of_getElem? (i := 212) (by decide +kernel)⟩
theorem lw_p1 : lw_okq (⟨"SkyLoom", "needStar", "(I)V"⟩, 5) := ⟨⟨by decide +kernel, by decide +kernel⟩, List.mem_of_getElem? (i := 18) (by decide +kernel), List.mem_of_getElem? (i := 272) (by decide +kernel), List.mem_of_getElem? (i := 273) (by decide +kernel)⟩
theorem lw_p2 : lw_okq (⟨"SkyLoom", "countWrongShows", "()I"⟩, 5) := ⟨⟨by decide +kernel, by decide +kernel⟩, List.mem_of_getElem? (i := 18) (by decide +kernel), List.mem_of_getElem? (i := 300) (by decide +kernel), List.mem_of_getElem? (i := 301) (by decide +kernel)⟩
theorem lw_p3 : lw_okq (⟨"SkyLoom", "showIsWrong", "(I)Z"⟩, 5) := ⟨⟨by decide +kernel, by decide +kernel⟩, List.mem_of_getElem? (i := 18) (by decide +kernel), List.mem_of_getElem? (i := 304) (by decide +kernel), List.mem_of_getElem? (i := 305) (by decide +kernel)⟩
theorem lw_p4 : lw_okq (⟨"SkyLoom", "lowestHeight", "(III)I"⟩, 5) := ⟨⟨by decide +kernel, by decide +kernel⟩, List.mem_of_getElem? (i := 18) (by decide +kernel), List.mem_of_getElem? (i := 308) (by decide +kernel), List.mem_of_getElem? (i := 309) (by decide +kernel)⟩
theorem lw_p5 : lw_okq (⟨"SkyLoom", "needFigure", "(I)V"⟩, 5) := ⟨⟨by decide +kernel, by decide +kernel⟩, List.mem_of_getElem? (i := 18) (by decide +kernel), List.mem_of_getElem? (i := 347) (by decide +kernel), List.mem_of_getElem? (i := 348) (by decide +kernel)⟩
theorem lw_p6 : lw_okq (⟨"SkyLoom$Web", "hasStar", "(II)Z"⟩, 4) := ⟨⟨by decide +kernel, by decide +kernel⟩, List.mem_of_getElem? (i := 46) (by decide +kernel), List.mem_of_getElem? (i := 382) (by decide +kernel), List.mem_of_getElem? (i := 383) (by decide +kernel)⟩
theorem lw_p7 : lw_okq (⟨"SkyLoom", "linesCross", "(II)Z"⟩, 5) := ⟨⟨by decide +kernel, by decide +kernel⟩, List.mem_of_getElem? (i := 18) (by decide +kernel), List.mem_of_getElem? (i := 390) (by decide +kernel), List.mem_of_getElem? (i := 391) (by decide +kernel)⟩
theorem lw_p8 : lw_okq (⟨"SkyLoom$Chart", "straddles", "(IIII)Z"⟩, 3) := ⟨⟨by decide +kernel, by decide +kernel⟩, List.mem_of_getElem? (i := 26) (by decide +kernel), List.mem_of_getElem? (i := 405) (by decide +kernel), List.mem_of_getElem? (i := 406) (by decide +kernel)⟩
theorem lw_p9 : lw_okq (⟨"SkyLoom$Chart", "sideOf", "(III)I"⟩, 3) := ⟨⟨by decide +kernel, by decide +kernel⟩, List.mem_of_getElem? (i := 26) (by decide +kernel), List.mem_of_getElem? (i := 409) (by decide +kernel), List.mem_of_getElem? (i := 410) (by decide +kernel)⟩
theorem lw_p10 : lw_okq (⟨"SkyLoom$Ballot", "count", "(III)V"⟩, 3) := ⟨⟨by decide +kernel, by decide +kernel⟩, List.mem_of_getElem? (i := 69) (by decide +kernel), List.mem_of_getElem? (i := 429) (by decide +kernel), List.mem_of_getElem? (i := 430) (by decide +kernel)⟩
theorem lw_p11 : lw_okq (⟨"SkyLoom$Ballot", "giveNames", "()V"⟩, 3) := ⟨⟨by decide +kernel, by decide +kernel⟩, List.mem_of_getElem? (i := 69) (by decide +kernel), List.mem_of_getElem? (i := 433) (by decide +kernel), List.mem_of_getElem? (i := 434) (by decide +kernel)⟩
theorem lw_p12 : lw_okq (⟨"SkyLoom$Ballot", "giveName", "(III)I"⟩, 3) := ⟨⟨by decide +kernel, by decide +kernel⟩, List.mem_of_getElem? (i := 69) (by decide +kernel), List.mem_of_getElem? (i := 437) (by decide +kernel), List.mem_of_getElem? (i := 438) (by decide +kernel)⟩
theorem lw_p13 : lw_okq (⟨"SkyLoom", "figureIsUp", "(III)Z"⟩, 5) := ⟨⟨by decide +kernel, by decide +kernel⟩, List.mem_of_getElem? (i := 18) (by decide +kernel), List.mem_of_getElem? (i := 468) (by decide +kernel), List.mem_of_getElem? (i := 469) (by decide +kernel)⟩
theorem lw_p14 : lw_okq (⟨"SkyLoom", "takeBack", "(I)V"⟩, 5) := ⟨⟨by decide +kernel, by decide +kernel⟩, List.mem_of_getElem? (i := 18) (by decide +kernel), List.mem_of_getElem? (i := 523) (by decide +kernel), List.mem_of_getElem? (i := 524) (by decide +kernel)⟩
theorem lw_p15 : lw_okq (⟨"SkyLoom", "hoursOfStar", "(III)I"⟩, 5) := ⟨⟨by decide +kernel, by decide +kernel⟩, List.mem_of_getElem? (i := 18) (by decide +kernel), List.mem_of_getElem? (i := 563) (by decide +kernel), List.mem_of_getElem? (i := 564) (by decide +kernel)⟩
def lw_privs_1 : List (MethodName × Nat) := [(⟨"java/lang/Throwable", "fillInStackTrace", "(I)Ljava/lang/Throwable;"⟩, 6), (⟨"SkyLoom", "needStar", "(I)V"⟩, 5), (⟨"SkyLoom", "countWrongShows", "()I"⟩, 5), (⟨"SkyLoom", "showIsWrong", "(I)Z"⟩, 5), (⟨"SkyLoom", "lowestHeight", "(III)I"⟩, 5), (⟨"SkyLoom", "needFigure", "(I)V"⟩, 5), (⟨"SkyLoom$Web", "hasStar", "(II)Z"⟩, 4), (⟨"SkyLoom", "linesCross", "(II)Z"⟩, 5), (⟨"SkyLoom$Chart", "straddles", "(IIII)Z"⟩, 3), (⟨"SkyLoom$Chart", "sideOf", "(III)I"⟩, 3), (⟨"SkyLoom$Ballot", "count", "(III)V"⟩, 3), (⟨"SkyLoom$Ballot", "giveNames", "()V"⟩, 3), (⟨"SkyLoom$Ballot", "giveName", "(III)I"⟩, 3), (⟨"SkyLoom", "figureIsUp", "(III)Z"⟩, 5), (⟨"SkyLoom", "takeBack", "(I)V"⟩, 5), (⟨"SkyLoom", "hoursOfStar", "(III)I"⟩, 5)]
theorem lw_r1 : ∀ q ∈ lw_privs_1, lw_okq q := List.forall_mem_cons.mpr ⟨lw_p0, List.forall_mem_cons.mpr ⟨lw_p1, List.forall_mem_cons.mpr ⟨lw_p2, List.forall_mem_cons.mpr ⟨lw_p3, List.forall_mem_cons.mpr ⟨lw_p4, List.forall_mem_cons.mpr ⟨lw_p5, List.forall_mem_cons.mpr ⟨lw_p6, List.forall_mem_cons.mpr ⟨lw_p7, List.forall_mem_cons.mpr ⟨lw_p8, List.forall_mem_cons.mpr ⟨lw_p9, List.forall_mem_cons.mpr ⟨lw_p10, List.forall_mem_cons.mpr ⟨lw_p11, List.forall_mem_cons.mpr ⟨lw_p12, List.forall_mem_cons.mpr ⟨lw_p13, List.forall_mem_cons.mpr ⟨lw_p14, List.forall_mem_cons.mpr ⟨lw_p15, fun _ h => absurd h List.not_mem_nil⟩⟩⟩⟩⟩⟩⟩⟩⟩⟩⟩⟩⟩⟩⟩⟩
def lw_privs : List (MethodName × Nat) := lw_privs_1
def lw_tbl : List Cond := k2_sels lw_privs ++ tables_1
theorem lw_privs_ok : ∀ q ∈ lw_privs, lw_okq q := lw_r1
end
section
/-! ===== BEGIN words of one list among another's, by their places ===== -/
theorem goodIn_r {big : List Cond} (ws : List Cond) (ps : List Nat) (hp : ws = ps.filterMap (fun i => big[i]?)) (h : ws.all goodWord = true) : GoodIn big ws := by
  intro w hw
  have h1 := List.all_eq_true.mp h w hw
  rw [hp] at hw
  obtain ⟨i, -, hi⟩ := List.mem_filterMap.mp hw
  have hm : w ∈ big := by first | exact List.mem_of_getElem? hi | exact List.getElem?_mem hi
  exact ⟨hm, good_of_word h1⟩
theorem goodIn_app {big a b : List Cond} (ha : GoodIn big a) (hb : GoodIn big b) : GoodIn big (a ++ b) := fun w h => (List.mem_append.mp h).elim (ha w) (hb w)
theorem goodIn_ca {big a b : List Cond} {c : Cond} (ha : GoodIn big (c :: a)) (hb : GoodIn big b) : GoodIn big (c :: (a ++ b)) := fun w h => (List.mem_cons.mp h).elim (fun e => ha w (List.mem_cons.mpr (Or.inl e))) (fun h => (List.mem_append.mp h).elim (fun h => ha w (List.mem_cons.mpr (Or.inr h))) (hb w))
theorem goodIn_sub {big ws : List Cond} (hm : ∀ w ∈ ws, w ∈ big) (h : ws.all goodWord = true) : GoodIn big ws := fun w hw => ⟨hm w hw, good_of_word (List.all_eq_true.mp h w hw)⟩
/-! ===== END ===== -/

/-! ===== BEGIN exceptions that leave a method, and their catching by the caller (launches without stack traces) ===== -/
section VXA
/-! The laws vx_back, vx_callV, vx_callS, vx_callSW, vx_throw0, vx_throwS follow proofs of the library, with one case more: JvmDerived/Free/Laws.lean (Back.of_free), Shelf42/LK1.lean (callV, callS), Shelf/KitTraced.lean (throwNew0V, throwNewS). -/
/-- where a method has thrown q: the class by its name, the cell, what was written, the world -/
def vx_T (XC : String → State → State → Prop) (st : State) (q : Addr) (t : State) (mc ms : Nat) (free : Addr → Prop) : Prop :=
  ∃ (E : String) (ce : Cell) (L : List Loc), XC E st t ∧ t.heap[q]? = some ce ∧ ce.vm = .none ∧ st.vm.findClass E = some ce.cls ∧ st.WarmedH t.vm ∧ st.sameButNew ({ t with vm := st.vm } : State) L mc ms ∧ ∀ z ∈ L, free z.base
def vx_Q (Qc : Array Value → State → Outcome → State → Prop) (XC : String → State → State → Prop) (mc ms : Nat) (free : Addr → Prop) : Array Value → State → Outcome → State → Prop := fun a st o t =>
  (Qc a st o t ∧ ∃ L, FrameEnd st o t L mc ms ∧ ∀ q ∈ L, free q.base) ∨ ∃ q, o = .threw q ∧ vx_T XC st q t mc ms free
/-- a callee that returns or throws -/
def vx_Met (l : Launch) (y : MethodName) (ws : List Cond) (rm : Room) (Pc : Array Value → State → Prop) (Qc : Array Value → State → Outcome → State → Prop) (XC : String → State → State → Prop) (mc ms : Nat) (free : Addr → Prop) : Prop :=
  MetFree l y (headSpec ws rm) Pc (fun _ _ _ _ _ => True) (vx_Q Qc XC mc ms free)
def vx_Post (XC : String → State → State → Prop) (mc ms : Nat) (free : Addr → Prop) : Pt → Array Value → Addr → Pt → Prop := fun A a q B =>
  ∃ (g : JFrame) (mk : MethodId) (t : State) (L : List Loc) (E : String) (ce : Cell), B.U.heap = t.heap ∧ B.U.vm = t.vm ∧ XC E (A.U.calling g mk a) t ∧ t.heap[q]? = some ce ∧ ce.vm = .none ∧ A.U.vm.findClass E = some ce.cls ∧ B.locs = A.locs ++ L ∧ (∀ z ∈ L, free z.base) ∧ B.cells = A.cells + mc ∧ B.slots = A.slots + ms
def vx_Back (l : Launch) (R : Room) (p : Program) (e : Env) (below : List Frame) (s : State) (sargs : Array Value) (y : MethodName) (len W9 : Nat)
    (Pre : Pt → Array Value → Prop) (Post : Pt → Array Value → Option Value → Pt → Prop) (PostX : Pt → Array Value → Addr → Pt → Prop) : Prop :=
  ∀ (m : MethodId) (meth : Method) (c : Code) (A : Pt) (g : JFrame) (ig : Instr) (mk : MethodId) (a : Array Value),
    Stand p l e R s m sargs below meth c A.U A.locs A.cells A.slots → g.method = m → g.locals.size = c.maxLocals → decode c.code g.pc = .ok (ig, len) →
    2 * g.monitorRoom + (g.stack.map fun v => v.category).sum ≤ W9 → A.U.methodNamed? y = some mk → Pre A a →
    (∃ (v : Option Value) (B : Pt), Stand p l e R s m sargs below meth c B.U B.locs B.cells B.slots ∧ Post A a v B ∧
      Steps p.tables e below (doInvoke e (A.U.setTop g) [] mk a).1 (B.U.setTop { g with pc := g.pc + len, stack := v.toList ++ g.stack })) ∨
    (∃ (q : Addr) (B : Pt), Stand p l e R s m sargs below meth c B.U B.locs B.cells B.slots ∧ PostX A a q B ∧
      Steps p.tables e below (doInvoke e (A.U.setTop g) [] mk a).1 ((B.U.setTop g).pushFrame (.throwing q)))
section Payer
variable {l : Launch} {R : Room} {p : Program} {e : Env} {below : List Frame} {s : State} {sargs : Array Value} {y : MethodName} {len W9 : Nat}
theorem vx_back {ws : List Cond} {rm : Room} {Pc : Array Value → State → Prop} {Qc : Array Value → State → Outcome → State → Prop} {XC : String → State → State → Prop} {mc ms : Nat} {free : Addr → Prop} {bytes : ByteArray} {maxL : Nat} {ret : Option FieldType}
    (hM : vx_Met l y ws rm Pc Qc XC mc ms free) (hblind : FrameBlind Pc) (hrc : rm.cells = mc) (hrs : rm.slots = ms)
    (hframes : rm.frames + 1 ≤ R.frames) (hlocals : W9 + (maxL + 11) + rm.locals ≤ R.locals)
    (hws : ∀ w ∈ ws, ∀ a' U, s.WarmedH U.vm → w.before a' U = true) (hcode : Cond.code y bytes maxL ret ∈ ws) (hinit : ∀ a' U, s.WarmedH U.vm → (Cond.initialized y.cls).before a' U = true) :
    vx_Back l R p e below s sargs y len W9 (PreOf R mc ms Pc) (PostOf Qc mc ms free) (vx_Post XC mc ms free) := by
  intro m meth c A g ig mk a X hg hsize hdg hW hn hp
  have h1 : (headSpec ws rm).pre.before a A.U = true := atoms_intro fun w hw => hws w hw _ _ X.warmed
  have h2 : (Cond.code y bytes maxL ret).before a A.U = true := hws _ hcode _ _ X.warmed
  have h3 : (Cond.initialized y.cls).before a A.U = true := hinit _ _ X.warmed
  have h4 : A.cells + (headSpec ws rm).room.cells ≤ R.cells := by rw [show (headSpec ws rm).room.cells = mc from hrc]; exact hp.1
  have h5 : A.slots + (headSpec ws rm).room.slots ≤ R.slots := by rw [show (headSpec ws rm).room.slots = ms from hrs]; exact hp.2.1
  have hPc : Pc a (A.U.calling g mk a) := hblind _ _ _ _ hp.2.2
  obtain ⟨U, Ls, c0, s0⟩ := A
  dsimp only [Pt.U, Pt.locs, Pt.cells, Pt.slots] at h1 h2 h3 h4 h5 X hn hPc ⊢
  obtain ⟨methY, cY, hmY, hcY, -, hlY, -, -, -, -⟩ := Cond.code_spec hn h2
  obtain ⟨kY, hkY, -⟩ := className_of_methodNamed hn
  have hinitY : kY.init = .initialized := Cond.initialized_spec (findClass_of_methodNamed hn) hkY h3
  have h : At U g.method c below := by rw [hg]; exact X.here
  have hlocals9 : W9 + (maxL + 11) + (headSpec ws rm).room.locals ≤ R.locals := hlocals
  have happ : (headSpec ws rm).appliesLoose y e.platform (U.calling g mk a) = true :=
    Spec.appliesLoose_calling (g := g) h hdg hn hkY hinitY
      (X.room_calling (g := g) (R' := (headSpec ws rm).room) hsize hmY hcY hframes (by rw [hlY]; omega) h4 h5) h1
  obtain ⟨mid, hmid⟩ := h.above
  have hfr : (U.setTop g).frames = (.java g :: mid) ++ below := by rw [State.frames_setTop' g h.top, hmid]; rfl
  obtain ⟨o, s₂, hsteps, -, hend, hq⟩ := Steps.callFree hM p X.admits X.cas X.clock (acts := []) hfr happ hPc trivial
  have hq' : vx_Q Qc XC mc ms free a (U.calling g mk a) o s₂ := hq
  rw [State.frames_setTop' g h.top] at hend
  obtain ⟨g₀, hg0⟩ := Option.isSome_iff_exists.mp h.top
  obtain ⟨r, hr⟩ := State.topJava?_eq_some.mp hg0
  have hr' : (({ U with heap := s₂.heap, slotsUsed := s₂.slotsUsed } : State).setVm s₂.vm).frames = .java g₀ :: r := hr
  rcases hq' with ⟨hqc, L, hfe, hL⟩ | ⟨q, rfl, E, ce, L, hx, hce, hcv, hcl, hW₂, hsm, hL⟩
  · obtain ⟨⟨v, rfl⟩, hW₂, e2, q2, q3, q4, q5, q6⟩ := id hfe
    have e3 : s₂ = ({ (U.calling g mk a).setFrames s₂.frames with heap := s₂.heap, slotsUsed := s₂.slotsUsed } : State).setVm s₂.vm := by
      have : s₂ = ({ s₂ with vm := (U.calling g mk a).vm } : State).setVm s₂.vm := rfl
      rw [e2] at this
      exact this
    obtain ⟨c₂, i₂, len₂, hc₂, hd₂, hf₂⟩ := hend
    have hW' : U.WarmedH s₂.vm := hW₂
    have hcc : c₂ = c := by
      have h1 : s₂.code? g.method = U.code? g.method := by
        rw [State.code?_eq, State.code?_eq, hW'.alike.method?]
      exact Option.some.inj (hc₂.symm.trans (h1.trans h.code))
    subst hcc
    have hlen : len₂ = len := by rw [hdg] at hd₂; cases hd₂; rfl
    subst hlen
    have hs₂ : s₂ = (({ U with heap := s₂.heap, slotsUsed := s₂.slotsUsed } : State).setVm s₂.vm).setTop { g with pc := g.pc + len₂, stack := v.toList ++ g.stack } := by
      refine e3.trans ?_
      rw [hf₂, State.calling_eq h.top, State.setFrames_setFrames, State.setTop_of_frames _ hr', hr]
      rfl
    have hsame : U.sameButNew ({ U with heap := s₂.heap, slotsUsed := s₂.slotsUsed } : State) L mc ms := by
      refine ⟨?_, q2, q3, q4, q5, q6⟩
      obtain ⟨t, ht, -⟩ := State.frames_cons hr
      show ({ U with heap := s₂.heap, slotsUsed := s₂.slotsUsed } : State) = { U.setFrames U.frames with heap := s₂.heap, slotsUsed := s₂.slotsUsed }
      rw [State.setFrames_self ht]
    subst hg
    refine Or.inl ⟨v, ⟨(({ U with heap := s₂.heap, slotsUsed := s₂.slotsUsed } : State).setVm s₂.vm), Ls ++ L, c0 + mc, s0 + ms⟩,
      ⟨X.admits, X.cas, X.clock, X.frames, X.room, X.hears, X.method, X.code, (X.here.setHeapUsed s₂.heap s₂.slotsUsed).setVm hW'.alike, X.tail, State.WarmedH.trans X.warmed hW', X.limits, X.bytes, X.same.trans (hsame.setVm s.vm)⟩,
      ⟨g, mk, s₂, L, rfl, rfl, hqc, rfl, hL, rfl, rfl⟩, ?_⟩
    show Steps p.tables e below _ ((({ U with heap := s₂.heap, slotsUsed := s₂.slotsUsed } : State).setVm s₂.vm).setTop { g with pc := g.pc + len₂, stack := v.toList ++ g.stack })
    rw [← hs₂]
    exact hsteps
  · obtain ⟨e2, q2, q3, q4, q5, q6⟩ := id hsm
    have e3 : s₂ = ({ (U.calling g mk a).setFrames s₂.frames with heap := s₂.heap, slotsUsed := s₂.slotsUsed } : State).setVm s₂.vm := by
      have : s₂ = ({ s₂ with vm := (U.calling g mk a).vm } : State).setVm s₂.vm := rfl
      rw [e2] at this
      exact this
    have hf₂ : s₂.frames = .throwing q :: .java g :: U.frames.tail := hend
    have hW' : U.WarmedH s₂.vm := hW₂
    have hs₂ : s₂ = ((({ U with heap := s₂.heap, slotsUsed := s₂.slotsUsed } : State).setVm s₂.vm).setTop g).pushFrame (.throwing q) := by
      refine e3.trans ?_
      rw [hf₂, State.calling_eq h.top, State.setFrames_setFrames, State.pushFrame, State.frames_setTop _ hr', State.setTop_of_frames _ hr', State.setFrames_setFrames, hr]
      rfl
    have hsame : U.sameButNew ({ U with heap := s₂.heap, slotsUsed := s₂.slotsUsed } : State) L mc ms := by
      refine ⟨?_, q2, q3, q4, q5, q6⟩
      obtain ⟨t, ht, -⟩ := State.frames_cons hr
      show ({ U with heap := s₂.heap, slotsUsed := s₂.slotsUsed } : State) = { U.setFrames U.frames with heap := s₂.heap, slotsUsed := s₂.slotsUsed }
      rw [State.setFrames_self ht]
    subst hg
    refine Or.inr ⟨q, ⟨(({ U with heap := s₂.heap, slotsUsed := s₂.slotsUsed } : State).setVm s₂.vm), Ls ++ L, c0 + mc, s0 + ms⟩,
      ⟨X.admits, X.cas, X.clock, X.frames, X.room, X.hears, X.method, X.code, (X.here.setHeapUsed s₂.heap s₂.slotsUsed).setVm hW'.alike, X.tail, State.WarmedH.trans X.warmed hW', X.limits, X.bytes, X.same.trans (hsame.setVm s.vm)⟩,
      ⟨g, mk, s₂, L, E, ce, rfl, rfl, hx, hce, hcv, hcl, rfl, hL, rfl, rfl⟩, ?_⟩
    show Steps p.tables e below _ (((({ U with heap := s₂.heap, slotsUsed := s₂.slotsUsed } : State).setVm s₂.vm).setTop g).pushFrame (.throwing q))
    rw [← hs₂]
    exact hsteps
end Payer
section Calls
variable {p : Program} {l : Launch} {e : Env} {R : Room} {s : State} {m : MethodId} {args : Array Value} {below : List Frame} {meth : Method} {c : Code} {T : State} {locs : List Loc} {cells slots : Nat}
theorem vx_callV (X : Stand p l e R s m args below meth c T locs cells slots) (hexec : p.tables.exec = Jvm.exec) {own C : String} {index : Nat} {y : MethodName} {bytes : ByteArray} {maxL : Nat} {ret : Option FieldType}
    (hown : s.vm.findClass own = some m.cls) (hlink : (Cond.methodLink own index y).before args s = true) (hinst : (Cond.instanceMethod y).before args s = true) (hsel : (Cond.selects C y y).before args s = true)
    (hcode : (Cond.code y bytes maxL ret).before args s = true) (hy : y.cls ≠ "java/lang/invoke/MethodHandle" ∧ y.cls ≠ "java/lang/invoke/VarHandle")
    {W9 : Nat} {Pre : Pt → Array Value → Prop} {Post : Pt → Array Value → Option Value → Pt → Prop} {PostX : Pt → Array Value → Addr → Pt → Prop} (hK : vx_Back l R p e below s args y 3 W9 Pre Post PostX)
    {b : Addr} {cellB : Cell} (hcell : T.heap[b]? = some cellB) (hobj : cellB.vm.isStatics = false) (hcls : s.vm.findClass C = some cellB.cls)
    {g : JFrame} (hg : g.method = m) (hsize : g.locals.size = c.maxLocals) {argsL rest : List Value} (hlen : ∀ sig, parseMethodDescriptor y.desc = some sig → argsL.length = sig.parameters.length)
    (hstack : g.stack = argsL.reverse ++ .ref b :: rest) (hW : 2 * g.monitorRoom + (rest.map fun v => v.category).sum ≤ W9) (hdg : decode c.code g.pc = .ok (.invokevirtual index, 3))
    (hpre : ∀ vm₁, s.WarmedH vm₁ → Pre ⟨T.setVm vm₁, locs, cells, slots⟩ (Value.ref b :: argsL).toArray) :
    (∃ (v : Option Value) (vm₁ : Vm) (B : Pt), s.WarmedH vm₁ ∧ Stand p l e R s m args below meth c B.U B.locs B.cells B.slots ∧ Post ⟨T.setVm vm₁, locs, cells, slots⟩ (Value.ref b :: argsL).toArray v B ∧
      ∀ target, Steps p.tables e below (B.U.setTop { g with pc := g.pc + 3, stack := v.toList ++ rest }) target → Steps p.tables e below (T.setTop g) target) ∨
    (∃ (q : Addr) (vm₁ : Vm) (B : Pt), s.WarmedH vm₁ ∧ Stand p l e R s m args below meth c B.U B.locs B.cells B.slots ∧ PostX ⟨T.setVm vm₁, locs, cells, slots⟩ (Value.ref b :: argsL).toArray q B ∧
      Steps p.tables e below (T.setTop g) ((B.U.setTop { g with stack := rest }).pushFrame (.throwing q))) := by
  obtain ⟨mk, methM, hnamed, hmethM, hstM, habM⟩ := Cond.instanceMethod_spec hinst
  obtain ⟨methM', cM, hmethM', -, -, -, -, -, -, hsigM⟩ := Cond.code_spec hnamed hcode
  cases hmethM.symm.trans hmethM'
  obtain ⟨c2, r2, m2, q1, q2, q3, q4, kP, hkP, hkPi⟩ := Cond.selects_spec hsel
  cases hcls.symm.trans q1
  cases (State.methodFound?_of_named hnamed hy).symm.trans q2
  cases hnamed.symm.trans q3
  have hselP : selectMethod e.platform s.vm cellB.cls mk = .method mk := by rw [Launch.admits_selectMethod X.admits]; exact q4
  obtain ⟨vm₁, X₁, hstep₁⟩ := X.invokevirtual hexec hown hlink hnamed hmethM hstM hkP hkPi hy (a := b) (cell := cellB) hcell
    (fun z h => by rw [h] at hobj; cases hobj) hselP hmethM habM hkP hkPi (g := g) hg (argsL := argsL) (rest := rest) (hlen _ hsigM) hstack hdg
  rcases hK m meth c ⟨T.setVm vm₁, locs, cells, slots⟩ { g with stack := rest } (.invokevirtual index) mk (Value.ref b :: argsL).toArray X₁ hg hsize hdg hW (X₁.named hnamed) (hpre vm₁ X₁.warmed) with ⟨v, B, X', hpost, hsteps⟩ | ⟨q, B, X', hpost, hsteps⟩
  · exact Or.inl ⟨v, vm₁, B, X₁.warmed, X', hpost, fun target h => hstep₁ _ fun acts => by rw [doInvoke_state]; exact hsteps.trans h⟩
  · exact Or.inr ⟨q, vm₁, B, X₁.warmed, X', hpost, hstep₁ _ fun acts => by rw [doInvoke_state]; exact hsteps⟩
theorem vx_callS (X : Stand p l e R s m args below meth c T locs cells slots) (hexec : p.tables.exec = Jvm.exec) {own : String} {index : Nat} {y : MethodName} {bytes : ByteArray} {maxL : Nat} {ret : Option FieldType}
    (hown : s.vm.findClass own = some m.cls) (hlink : (Cond.methodLink own index y).before args s = true) (hstat : (Cond.static y).before args s = true) (hinit : (Cond.initialized y.cls).before args s = true)
    (hcode : (Cond.code y bytes maxL ret).before args s = true) (hy : y.cls ≠ "java/lang/invoke/MethodHandle" ∧ y.cls ≠ "java/lang/invoke/VarHandle")
    {W9 : Nat} {Pre : Pt → Array Value → Prop} {Post : Pt → Array Value → Option Value → Pt → Prop} {PostX : Pt → Array Value → Addr → Pt → Prop} (hK : vx_Back l R p e below s args y 3 W9 Pre Post PostX)
    {g : JFrame} (hg : g.method = m) (hsize : g.locals.size = c.maxLocals) {argsL rest : List Value} (hlen : ∀ sig, parseMethodDescriptor y.desc = some sig → argsL.length = sig.parameters.length)
    (hstack : g.stack = argsL.reverse ++ rest) (hW : 2 * g.monitorRoom + (rest.map fun v => v.category).sum ≤ W9) (hdg : decode c.code g.pc = .ok (.invokestatic index, 3))
    (hpre : ∀ vm₁, s.WarmedH vm₁ → Pre ⟨T.setVm vm₁, locs, cells, slots⟩ argsL.toArray) :
    (∃ (v : Option Value) (vm₁ : Vm) (B : Pt), s.WarmedH vm₁ ∧ Stand p l e R s m args below meth c B.U B.locs B.cells B.slots ∧ Post ⟨T.setVm vm₁, locs, cells, slots⟩ argsL.toArray v B ∧
      ∀ target, Steps p.tables e below (B.U.setTop { g with pc := g.pc + 3, stack := v.toList ++ rest }) target → Steps p.tables e below (T.setTop g) target) ∨
    (∃ (q : Addr) (vm₁ : Vm) (B : Pt), s.WarmedH vm₁ ∧ Stand p l e R s m args below meth c B.U B.locs B.cells B.slots ∧ PostX ⟨T.setVm vm₁, locs, cells, slots⟩ argsL.toArray q B ∧
      Steps p.tables e below (T.setTop g) ((B.U.setTop { g with stack := rest }).pushFrame (.throwing q))) := by
  obtain ⟨mk, hnamed⟩ := Cond.code_named hcode
  obtain ⟨methM, cM, hmethM, -, -, -, -, -, -, hsigM⟩ := Cond.code_spec hnamed hcode
  have hstatic : methM.isStatic = true := Cond.static_spec hnamed hmethM hstat
  obtain ⟨kP, hkP, -⟩ := className_of_methodNamed hnamed
  have hinitP : kP.init = .initialized := Cond.initialized_spec (findClass_of_methodNamed hnamed) hkP hinit
  obtain ⟨vm₁, X₁, hstep₁⟩ := X.invokestatic hexec hown hlink hnamed hmethM hstatic hkP hinitP hy (g := g) hg (argsL := argsL) (rest := rest) (hlen _ hsigM) hstack hdg
  rcases hK m meth c ⟨T.setVm vm₁, locs, cells, slots⟩ { g with stack := rest } (.invokestatic index) mk argsL.toArray X₁ hg hsize hdg hW (X₁.named hnamed) (hpre vm₁ X₁.warmed) with ⟨v, B, X', hpost, hsteps⟩ | ⟨q, B, X', hpost, hsteps⟩
  · exact Or.inl ⟨v, vm₁, B, X₁.warmed, X', hpost, fun target h => hstep₁ _ fun acts => by rw [doInvoke_state]; exact hsteps.trans h⟩
  · exact Or.inr ⟨q, vm₁, B, X₁.warmed, X', hpost, hstep₁ _ fun acts => by rw [doInvoke_state]; exact hsteps⟩
end Calls
theorem vx_cls {s : State} {T : State} {vm₁ : Vm} {E : String} {k : ClassId} (hW : s.WarmedH vm₁) (h : (T.setVm vm₁).vm.findClass E = some k) : s.vm.findClass E = some k := by
  have h1 : vm₁.findClass E = some k := h
  rw [hW.alike.findClass] at h1
  exact h1
/-- the method's frame g, with q thrown over it -/
def vx_W (p : Program) (l : Launch) (e : Env) (R : Room) (s : State) (m : MethodId) (args : Array Value) (below : List Frame) (meth : Method) (c : Code) (H : Heap) (locs : List Loc) (cells slots : Nat) (Q : State → Prop) (g : JFrame) (q : Addr) : Prop :=
  ∀ T : State, T.heap = H → Stand p l e R s m args below meth c T locs cells slots → ∃ t, Steps p.tables e below ((T.setTop g).pushFrame (.throwing q)) t ∧ Q t
def vx_Run (p : Program) (l : Launch) (e : Env) (R : Room) (s : State) (m : MethodId) (args : Array Value) (below : List Frame) (meth : Method) (c : Code) (H : Heap) (locs : List Loc) (cells slots mc ms : Nat) (g : JFrame) (rest : List Value) (Qa : State → Outcome → State → Prop) (XC : String → State → State → Prop) (free : Addr → Prop) : Prop :=
  ∀ T : State, T.heap = H → Stand p l e R s m args below meth c T locs cells slots →
    (∃ (v : Option Value) (st₀ t T' : State) (L : List Loc), st₀.heap = H ∧ Stand p l e R s m args below meth c T' (locs ++ L) (cells + mc) (slots + ms) ∧ (∀ q ∈ L, free q.base) ∧ T'.heap = t.heap ∧ T'.vm = t.vm ∧ Qa st₀ (.returned v) t ∧
      Goes p e below T g T' { g with pc := g.pc + 3, stack := v.toList ++ rest }) ∨
    (∃ (q : Addr) (st₀ t T' : State) (L : List Loc) (E : String) (ce : Cell), st₀.heap = H ∧ Stand p l e R s m args below meth c T' (locs ++ L) (cells + mc) (slots + ms) ∧ (∀ z ∈ L, free z.base) ∧ T'.heap = t.heap ∧ T'.vm = t.vm ∧ XC E st₀ t ∧ t.heap[q]? = some ce ∧ ce.vm = .none ∧ s.vm.findClass E = some ce.cls ∧
      Steps p.tables e below (T.setTop g) ((T'.setTop { g with stack := rest }).pushFrame (.throwing q)))
def vx_X {S : Type} (px : S → Prop) (B : String → S → State → Prop) (A : Nat → Prop) : String → State → State → Prop := fun E st t => ∃ u : S, px u ∧ B E u t ∧ va_F A st t
section Runs
variable {p : Program} {l : Launch} {e : Env} {R : Room} {s : State} {m : MethodId} {args : Array Value} {below : List Frame} {meth : Method} {c : Code} {H : Heap} {locs : List Loc} {cells slots : Nat}
variable {y : MethodName} {bytes cc : ByteArray} {maxL nL mc ms n index : Nat} {ret : Option FieldType} {ws : List Cond} {rm : Room} {Pc : Array Value → State → Prop} {Qc : Array Value → State → Outcome → State → Prop} {XC : String → State → State → Prop} {free : Addr → Prop} {Ts : List Cond} {own C : String} {b : Addr} {As rest : List Value} {g : JFrame}
theorem vx_callBack (cb : CallB R s args own index y bytes maxL ret ws rm mc ms n) (hM : vx_Met l y ws rm Pc Qc XC mc ms free) (hbl : FrameBlind Pc) : vx_Back l R p e below s args y 3 8 (PreOf R mc ms Pc) (PostOf Qc mc ms free) (vx_Post XC mc ms free) := by
  obtain ⟨hrc, hrs, hfr, hlo, hws, hcw, -, hini, -⟩ := cb
  exact vx_back (bytes := bytes) (maxL := maxL) (ret := ret) hM hbl hrc hrs hfr hlo hws hcw (fun a' U hW => word_at hW (Or.inl (by first | rfl | simp [Cond.onTables, Cond.keeps, Cond.steady])) hini)
theorem vx_runV (S : CallFix p m c cc nL s args Ts own) (hM : vx_Met l y ws rm Pc Qc XC mc ms free) (cw : CallW R s args own C index y bytes maxL ret ws rm mc ms n) (hp : PreV s H C b Pc As)
    (hg : g.method = m) (hn : As.length = n) (hsize : g.locals.size = nL) (hstack : g.stack = As.reverse ++ .ref b :: rest) (hW : 2 * g.monitorRoom + (rest.map fun v => v.category).sum ≤ 8) (hdg : decode cc g.pc = .ok (.invokevirtual index, 3)) (hf : cells + mc ≤ R.cells ∧ slots + ms ≤ R.slots) :
    vx_Run p l e R s m args below meth c H locs cells slots mc ms g rest (Qc (Value.ref b :: As).toArray) XC free := by
  have hK : vx_Back l R p e below s args y 3 8 (PreOf R mc ms Pc) (PostOf Qc mc ms free) (vx_Post XC mc ms free) := vx_callBack cw.1 hM hp.1
  obtain ⟨⟨-, -, -, -, -, -, hcode, -, hy, hlen, hl⟩, hin, hse⟩ := cw
  obtain ⟨hx, hb, hml, ho, -⟩ := S
  obtain ⟨-, ⟨cellB, hcB, hoB, hclB⟩, hPc⟩ := hp
  intro T hT X
  rcases vx_callV X hx (C := C) (bytes := bytes) (maxL := maxL) (ret := ret) ho hl hin hse hcode hy hK (by rw [hT]; exact hcB) hoB hclB hg (hsize.trans hml.symm) (argsL := As) (rest := rest) (fun sig h => hn.trans (hlen sig h)) hstack hW (by rw [hb]; exact hdg)
    (fun vm₁ hW₁ => ⟨hf.1, hf.2, hPc (T.setVm vm₁) hT hW₁⟩) with ⟨v, vm₁, ⟨U', l2, c2, s2⟩, hW₁, X', ⟨g', mk, t, L, e1, e2, hq, h1, hL, h2, h3⟩, st⟩ | ⟨q, vm₁, ⟨U', l2, c2, s2⟩, hW₁, X', ⟨g', mk, t, L, E, ce, e1, e2, hq, hce, hcv, hcl, h1, hL, h2, h3⟩, st⟩
  · dsimp only [Pt.U, Pt.locs, Pt.cells, Pt.slots] at X' e1 e2 h1 h2 h3 st
    subst h1; subst h2; subst h3
    exact Or.inl ⟨v, (T.setVm vm₁).calling g' mk (Value.ref b :: As).toArray, t, U', L, hT, X', hL, e1, e2, hq, st⟩
  · dsimp only [Pt.U, Pt.locs, Pt.cells, Pt.slots] at X' e1 e2 h1 h2 h3 st hcl
    subst h1; subst h2; subst h3
    exact Or.inr ⟨q, (T.setVm vm₁).calling g' mk (Value.ref b :: As).toArray, t, U', L, E, ce, hT, X', hL, e1, e2, hq, hce, hcv, vx_cls hW₁ hcl, st⟩
theorem vx_runS (S : CallFix p m c cc nL s args Ts own) (hM : vx_Met l y ws rm Pc Qc XC mc ms free) (cw : CallB R s args own index y bytes maxL ret ws rm mc ms n ∧ (Cond.static y).before args s = true) (hp : PreS s H Pc As)
    (hg : g.method = m) (hn : As.length = n) (hsize : g.locals.size = nL) (hstack : g.stack = As.reverse ++ rest) (hW : 2 * g.monitorRoom + (rest.map fun v => v.category).sum ≤ 8) (hdg : decode cc g.pc = .ok (.invokestatic index, 3)) (hf : cells + mc ≤ R.cells ∧ slots + ms ≤ R.slots) :
    vx_Run p l e R s m args below meth c H locs cells slots mc ms g rest (Qc As.toArray) XC free := by
  have hK : vx_Back l R p e below s args y 3 8 (PreOf R mc ms Pc) (PostOf Qc mc ms free) (vx_Post XC mc ms free) := vx_callBack cw.1 hM hp.1
  obtain ⟨⟨-, -, -, -, -, -, hcode, hini, hy, hlen, hl⟩, hstt⟩ := cw
  obtain ⟨hx, hb, hml, ho, -⟩ := S
  intro T hT X
  rcases vx_callS X hx (bytes := bytes) (maxL := maxL) (ret := ret) ho hl hstt hini hcode hy hK hg (hsize.trans hml.symm) (argsL := As) (rest := rest) (fun sig h => hn.trans (hlen sig h)) hstack hW (by rw [hb]; exact hdg)
    (fun vm₁ hW₁ => ⟨hf.1, hf.2, hp.2 (T.setVm vm₁) hT hW₁⟩) with ⟨v, vm₁, ⟨U', l2, c2, s2⟩, hW₁, X', ⟨g', mk, t, L, e1, e2, hq, h1, hL, h2, h3⟩, st⟩ | ⟨q, vm₁, ⟨U', l2, c2, s2⟩, hW₁, X', ⟨g', mk, t, L, E, ce, e1, e2, hq, hce, hcv, hcl, h1, hL, h2, h3⟩, st⟩
  · dsimp only [Pt.U, Pt.locs, Pt.cells, Pt.slots] at X' e1 e2 h1 h2 h3 st
    subst h1; subst h2; subst h3
    exact Or.inl ⟨v, (T.setVm vm₁).calling g' mk As.toArray, t, U', L, hT, X', hL, e1, e2, hq, st⟩
  · dsimp only [Pt.U, Pt.locs, Pt.cells, Pt.slots] at X' e1 e2 h1 h2 h3 st hcl
    subst h1; subst h2; subst h3
    exact Or.inr ⟨q, (T.setVm vm₁).calling g' mk As.toArray, t, U', L, E, ce, hT, X', hL, e1, e2, hq, hce, hcv, vx_cls hW₁ hcl, st⟩
end Runs
section Rows
variable {p : Program} {l : Launch} {e : Env} {R : Room} {s : State} {m : MethodId} {args : Array Value} {below : List Frame} {meth : Method} {c : Code} {H : Heap} {locs : List Loc} {cells slots : Nat} {Q : State → Prop}
variable {mc ms : Nat} {free : Addr → Prop} {A0 A1 : Nat → Prop} {H0 : Heap} {a : Array Value} {pc : Nat} {ls : Array Slot} {st0 rest : List Value}
theorem vx_keep {st₀ t T' : State} {L : List Loc} (h0 : st₀.heap = H) (e1 : T'.heap = t.heap) (hS : va_S A0 H0 H locs) (hA : ∀ q, q < H.size → A1 q → A0 q) (hf : ∀ q, free q → A0 q) (hL : ∀ q ∈ L, free q.base) (hF : va_F A1 st₀ t) :
    H.size ≤ T'.heap.size ∧ (∀ q : Nat, q < H.size → ¬ A1 q → T'.heap[q]? = H[q]?) ∧ va_S A0 H0 T'.heap (locs ++ L) := by
  obtain ⟨hz, hk⟩ := hF
  rw [h0] at hz hk
  exact ⟨by rw [e1]; exact hz, fun q h1 h2 => by rw [e1]; exact hk q h1 h2,
    ⟨Nat.le_trans hS.1 (by rw [e1]; exact hz), fun q h1 h2 => by rw [e1, hk q (Nat.lt_of_lt_of_le h1 hS.1) (fun z => h2 (hA q (Nat.lt_of_lt_of_le h1 hS.1) z))]; exact hS.2.1 q h1 h2, fun q hq => by
      rcases List.mem_append.mp hq with h | h
      · exact hS.2.2 q h
      · exact hf _ (hL q h)⟩⟩
theorem vx_calli {S SX : Type} {post : Int32 → S → Prop} {px : SX → Prop} {B : S → State → Prop} {BX : String → SX → State → Prop} {AX : Nat → Prop} (hr : vx_Run p l e R s m args below meth c H locs cells slots mc ms (F0 m pc ls st0) rest (va_Qi post B A1 a) (vx_X px BX AX) free) (hS : va_S A0 H0 H locs) (hA : ∀ q, q < H.size → A1 q → A0 q) (hf : ∀ q, free q → A0 q) (hAX : ∀ q, q < H.size → AX q → A0 q)
    (kx : ∀ (E : String) (ce : Cell) (q9 : Addr) (u : SX) (t : State) (H1 : Heap) (locs1 : List Loc), t.heap = H1 → s.vm.Alike t.vm → px u → BX E u t → H.size ≤ H1.size → (∀ q : Nat, q < H.size → ¬ AX q → H1[q]? = H[q]?) → va_S A0 H0 H1 locs1 → H1[q9]? = some ce → ce.vm = .none → s.vm.findClass E = some ce.cls → vx_W p l e R s m args below meth c H1 locs1 (cells + mc) (slots + ms) Q (F0 m pc ls rest) q9)
    (kk : ∀ (r : Int32) (u : S) (t : State) (H1 : Heap) (locs1 : List Loc), t.heap = H1 → s.vm.Alike t.vm → post r u → B u t → H.size ≤ H1.size → (∀ q : Nat, q < H.size → ¬ A1 q → H1[q]? = H[q]?) → va_S A0 H0 H1 locs1 → W p l e R s m args below meth c H1 locs1 (cells + mc) (slots + ms) Q (F0 m (pc + 3) ls (.int r :: rest))) : W p l e R s m args below meth c H locs cells slots Q (F0 m pc ls st0) := by
  intro T hT X
  rcases hr T hT X with ⟨v, st₀, t, T', L, h0, X', hL, e1, e2, ⟨⟨r, u, hv, hp, hb⟩, hF⟩, st⟩ | ⟨q, st₀, t, T', L, E, ce, h0, X', hL, e1, e2, ⟨u, hp, hb, hF⟩, hce, hcv, hcl, st⟩
  · cases hv
    obtain ⟨k1, k2, k3⟩ := vx_keep h0 e1 hS hA hf hL hF
    obtain ⟨t2, a1, b1⟩ := kk r u t T'.heap (locs ++ L) e1.symm (by rw [← e2]; exact X'.warmed.alike) hp hb k1 k2 k3 T' rfl X'
    exact ⟨t2, st t2 a1, b1⟩
  · obtain ⟨k1, k2, k3⟩ := vx_keep h0 e1 hS hAX hf hL hF
    obtain ⟨t2, a1, b1⟩ := kx E ce q u t T'.heap (locs ++ L) e1.symm (by rw [← e2]; exact X'.warmed.alike) hp hb k1 k2 k3 (by rw [e1]; exact hce) hcv hcl T' rfl X'
    exact ⟨t2, st.trans a1, b1⟩
theorem vx_calll {S SX : Type} {post : Int64 → S → Prop} {px : SX → Prop} {B : S → State → Prop} {BX : String → SX → State → Prop} {AX : Nat → Prop} (hr : vx_Run p l e R s m args below meth c H locs cells slots mc ms (F0 m pc ls st0) rest (va_Ql post B A1 a) (vx_X px BX AX) free) (hS : va_S A0 H0 H locs) (hA : ∀ q, q < H.size → A1 q → A0 q) (hf : ∀ q, free q → A0 q) (hAX : ∀ q, q < H.size → AX q → A0 q)
    (kx : ∀ (E : String) (ce : Cell) (q9 : Addr) (u : SX) (t : State) (H1 : Heap) (locs1 : List Loc), t.heap = H1 → s.vm.Alike t.vm → px u → BX E u t → H.size ≤ H1.size → (∀ q : Nat, q < H.size → ¬ AX q → H1[q]? = H[q]?) → va_S A0 H0 H1 locs1 → H1[q9]? = some ce → ce.vm = .none → s.vm.findClass E = some ce.cls → vx_W p l e R s m args below meth c H1 locs1 (cells + mc) (slots + ms) Q (F0 m pc ls rest) q9)
    (kk : ∀ (r : Int64) (u : S) (t : State) (H1 : Heap) (locs1 : List Loc), t.heap = H1 → s.vm.Alike t.vm → post r u → B u t → H.size ≤ H1.size → (∀ q : Nat, q < H.size → ¬ A1 q → H1[q]? = H[q]?) → va_S A0 H0 H1 locs1 → W p l e R s m args below meth c H1 locs1 (cells + mc) (slots + ms) Q (F0 m (pc + 3) ls (.long r :: rest))) : W p l e R s m args below meth c H locs cells slots Q (F0 m pc ls st0) := by
  intro T hT X
  rcases hr T hT X with ⟨v, st₀, t, T', L, h0, X', hL, e1, e2, ⟨⟨r, u, hv, hp, hb⟩, hF⟩, st⟩ | ⟨q, st₀, t, T', L, E, ce, h0, X', hL, e1, e2, ⟨u, hp, hb, hF⟩, hce, hcv, hcl, st⟩
  · cases hv
    obtain ⟨k1, k2, k3⟩ := vx_keep h0 e1 hS hA hf hL hF
    obtain ⟨t2, a1, b1⟩ := kk r u t T'.heap (locs ++ L) e1.symm (by rw [← e2]; exact X'.warmed.alike) hp hb k1 k2 k3 T' rfl X'
    exact ⟨t2, st t2 a1, b1⟩
  · obtain ⟨k1, k2, k3⟩ := vx_keep h0 e1 hS hAX hf hL hF
    obtain ⟨t2, a1, b1⟩ := kx E ce q u t T'.heap (locs ++ L) e1.symm (by rw [← e2]; exact X'.warmed.alike) hp hb k1 k2 k3 (by rw [e1]; exact hce) hcv hcl T' rfl X'
    exact ⟨t2, st.trans a1, b1⟩
theorem vx_callf {S SX : Type} {post : UInt32 → S → Prop} {px : SX → Prop} {B : S → State → Prop} {BX : String → SX → State → Prop} {AX : Nat → Prop} (hr : vx_Run p l e R s m args below meth c H locs cells slots mc ms (F0 m pc ls st0) rest (va_Qf post B A1 a) (vx_X px BX AX) free) (hS : va_S A0 H0 H locs) (hA : ∀ q, q < H.size → A1 q → A0 q) (hf : ∀ q, free q → A0 q) (hAX : ∀ q, q < H.size → AX q → A0 q)
    (kx : ∀ (E : String) (ce : Cell) (q9 : Addr) (u : SX) (t : State) (H1 : Heap) (locs1 : List Loc), t.heap = H1 → s.vm.Alike t.vm → px u → BX E u t → H.size ≤ H1.size → (∀ q : Nat, q < H.size → ¬ AX q → H1[q]? = H[q]?) → va_S A0 H0 H1 locs1 → H1[q9]? = some ce → ce.vm = .none → s.vm.findClass E = some ce.cls → vx_W p l e R s m args below meth c H1 locs1 (cells + mc) (slots + ms) Q (F0 m pc ls rest) q9)
    (kk : ∀ (r : UInt32) (u : S) (t : State) (H1 : Heap) (locs1 : List Loc), t.heap = H1 → s.vm.Alike t.vm → post r u → B u t → H.size ≤ H1.size → (∀ q : Nat, q < H.size → ¬ A1 q → H1[q]? = H[q]?) → va_S A0 H0 H1 locs1 → W p l e R s m args below meth c H1 locs1 (cells + mc) (slots + ms) Q (F0 m (pc + 3) ls (.float r :: rest))) : W p l e R s m args below meth c H locs cells slots Q (F0 m pc ls st0) := by
  intro T hT X
  rcases hr T hT X with ⟨v, st₀, t, T', L, h0, X', hL, e1, e2, ⟨⟨r, u, hv, hp, hb⟩, hF⟩, st⟩ | ⟨q, st₀, t, T', L, E, ce, h0, X', hL, e1, e2, ⟨u, hp, hb, hF⟩, hce, hcv, hcl, st⟩
  · cases hv
    obtain ⟨k1, k2, k3⟩ := vx_keep h0 e1 hS hA hf hL hF
    obtain ⟨t2, a1, b1⟩ := kk r u t T'.heap (locs ++ L) e1.symm (by rw [← e2]; exact X'.warmed.alike) hp hb k1 k2 k3 T' rfl X'
    exact ⟨t2, st t2 a1, b1⟩
  · obtain ⟨k1, k2, k3⟩ := vx_keep h0 e1 hS hAX hf hL hF
    obtain ⟨t2, a1, b1⟩ := kx E ce q u t T'.heap (locs ++ L) e1.symm (by rw [← e2]; exact X'.warmed.alike) hp hb k1 k2 k3 (by rw [e1]; exact hce) hcv hcl T' rfl X'
    exact ⟨t2, st.trans a1, b1⟩
theorem vx_calld {S SX : Type} {post : UInt64 → S → Prop} {px : SX → Prop} {B : S → State → Prop} {BX : String → SX → State → Prop} {AX : Nat → Prop} (hr : vx_Run p l e R s m args below meth c H locs cells slots mc ms (F0 m pc ls st0) rest (va_Qd post B A1 a) (vx_X px BX AX) free) (hS : va_S A0 H0 H locs) (hA : ∀ q, q < H.size → A1 q → A0 q) (hf : ∀ q, free q → A0 q) (hAX : ∀ q, q < H.size → AX q → A0 q)
    (kx : ∀ (E : String) (ce : Cell) (q9 : Addr) (u : SX) (t : State) (H1 : Heap) (locs1 : List Loc), t.heap = H1 → s.vm.Alike t.vm → px u → BX E u t → H.size ≤ H1.size → (∀ q : Nat, q < H.size → ¬ AX q → H1[q]? = H[q]?) → va_S A0 H0 H1 locs1 → H1[q9]? = some ce → ce.vm = .none → s.vm.findClass E = some ce.cls → vx_W p l e R s m args below meth c H1 locs1 (cells + mc) (slots + ms) Q (F0 m pc ls rest) q9)
    (kk : ∀ (r : UInt64) (u : S) (t : State) (H1 : Heap) (locs1 : List Loc), t.heap = H1 → s.vm.Alike t.vm → post r u → B u t → H.size ≤ H1.size → (∀ q : Nat, q < H.size → ¬ A1 q → H1[q]? = H[q]?) → va_S A0 H0 H1 locs1 → W p l e R s m args below meth c H1 locs1 (cells + mc) (slots + ms) Q (F0 m (pc + 3) ls (.double r :: rest))) : W p l e R s m args below meth c H locs cells slots Q (F0 m pc ls st0) := by
  intro T hT X
  rcases hr T hT X with ⟨v, st₀, t, T', L, h0, X', hL, e1, e2, ⟨⟨r, u, hv, hp, hb⟩, hF⟩, st⟩ | ⟨q, st₀, t, T', L, E, ce, h0, X', hL, e1, e2, ⟨u, hp, hb, hF⟩, hce, hcv, hcl, st⟩
  · cases hv
    obtain ⟨k1, k2, k3⟩ := vx_keep h0 e1 hS hA hf hL hF
    obtain ⟨t2, a1, b1⟩ := kk r u t T'.heap (locs ++ L) e1.symm (by rw [← e2]; exact X'.warmed.alike) hp hb k1 k2 k3 T' rfl X'
    exact ⟨t2, st t2 a1, b1⟩
  · obtain ⟨k1, k2, k3⟩ := vx_keep h0 e1 hS hAX hf hL hF
    obtain ⟨t2, a1, b1⟩ := kx E ce q u t T'.heap (locs ++ L) e1.symm (by rw [← e2]; exact X'.warmed.alike) hp hb k1 k2 k3 (by rw [e1]; exact hce) hcv hcl T' rfl X'
    exact ⟨t2, st.trans a1, b1⟩
theorem vx_callv {S SX : Type} {post : S → Prop} {px : SX → Prop} {B : S → State → Prop} {BX : String → SX → State → Prop} {AX : Nat → Prop} (hr : vx_Run p l e R s m args below meth c H locs cells slots mc ms (F0 m pc ls st0) rest (va_Qv post B A1 a) (vx_X px BX AX) free) (hS : va_S A0 H0 H locs) (hA : ∀ q, q < H.size → A1 q → A0 q) (hf : ∀ q, free q → A0 q) (hAX : ∀ q, q < H.size → AX q → A0 q)
    (kx : ∀ (E : String) (ce : Cell) (q9 : Addr) (u : SX) (t : State) (H1 : Heap) (locs1 : List Loc), t.heap = H1 → s.vm.Alike t.vm → px u → BX E u t → H.size ≤ H1.size → (∀ q : Nat, q < H.size → ¬ AX q → H1[q]? = H[q]?) → va_S A0 H0 H1 locs1 → H1[q9]? = some ce → ce.vm = .none → s.vm.findClass E = some ce.cls → vx_W p l e R s m args below meth c H1 locs1 (cells + mc) (slots + ms) Q (F0 m pc ls rest) q9)
    (kk : ∀ (u : S) (t : State) (H1 : Heap) (locs1 : List Loc), t.heap = H1 → s.vm.Alike t.vm → post u → B u t → H.size ≤ H1.size → (∀ q : Nat, q < H.size → ¬ A1 q → H1[q]? = H[q]?) → va_S A0 H0 H1 locs1 → W p l e R s m args below meth c H1 locs1 (cells + mc) (slots + ms) Q (F0 m (pc + 3) ls (rest))) : W p l e R s m args below meth c H locs cells slots Q (F0 m pc ls st0) := by
  intro T hT X
  rcases hr T hT X with ⟨v, st₀, t, T', L, h0, X', hL, e1, e2, ⟨⟨u, hv, hp, hb⟩, hF⟩, st⟩ | ⟨q, st₀, t, T', L, E, ce, h0, X', hL, e1, e2, ⟨u, hp, hb, hF⟩, hce, hcv, hcl, st⟩
  · cases hv
    obtain ⟨k1, k2, k3⟩ := vx_keep h0 e1 hS hA hf hL hF
    obtain ⟨t2, a1, b1⟩ := kk u t T'.heap (locs ++ L) e1.symm (by rw [← e2]; exact X'.warmed.alike) hp hb k1 k2 k3 T' rfl X'
    exact ⟨t2, st t2 a1, b1⟩
  · obtain ⟨k1, k2, k3⟩ := vx_keep h0 e1 hS hAX hf hL hF
    obtain ⟨t2, a1, b1⟩ := kx E ce q u t T'.heap (locs ++ L) e1.symm (by rw [← e2]; exact X'.warmed.alike) hp hb k1 k2 k3 (by rw [e1]; exact hce) hcv hcl T' rfl X'
    exact ⟨t2, st.trans a1, b1⟩
/-- caught by the row x of this method's table; the rows ahead don't take it -/
theorem vx_catch {own name : String} {E : String} {ce : Cell} {q : Addr} (hown : s.vm.findClass own = some m.cls) (pre : List ExceptionTableEntry) (x : ExceptionTableEntry) (suf : List ExceptionTableEntry) (hsplit : c.exceptionTable.toList = pre ++ x :: suf)
    (hpass : ∀ z ∈ pre, covers z pc = false ∨ (z.catchType ≠ 0 ∧ ∃ nm : String, (Cond.classLink own z.catchType nm).before args s = true ∧ va_Nc E nm s)) (hx : covers x pc = true) (h0 : x.catchType ≠ 0)
    (hlink : (Cond.classLink own x.catchType name).before args s = true) (hcast : (Cond.castable E name).before args s = true) (hcell : H[q]? = some ce) (hv : ce.vm = .none) (hcl : s.vm.findClass E = some ce.cls)
    (kk : W p l e R s m args below meth c H locs cells slots Q (F0 m x.handlerPc ls [.ref q])) : vx_W p l e R s m args below meth c H locs cells slots Q (F0 m pc ls rest) q := by
  intro T hT X
  have hpl : e.platform.magicAccessors = ({} : Platform).magicAccessors := by rw [X.admits.platform]
  obtain ⟨c3, c4, hc3, hc4, hasg⟩ := Cond.castable_spec hcast
  cases Option.some.inj (hc3.symm.trans hcl)
  obtain ⟨c5, hc5, hcl5⟩ := Cond.classLink_spec hown hlink e.platform hpl
  cases Option.some.inj (hc4.symm.trans hc5)
  obtain ⟨vm', X', st⟩ := X.thenCaughtThrough q (g := F0 m pc ls rest) rfl (Steps.refl _) (by rw [hT]; exact hcell) (by rw [hv]; rfl) (by obtain ⟨k9, h9, -⟩ := Vm.findClass_spec hcl; exact ⟨k9, h9⟩) pre x suf hsplit
    (fun z hz => by
      rcases hpass z hz with h | ⟨hz0, nm, hl1, hn1⟩
      · exact Or.inl h
      · obtain ⟨c6, hc6, hcl6⟩ := Cond.classLink_spec hown hl1 e.platform hpl
        obtain ⟨a8, b8, h1, h2, h3⟩ := hn1
        cases Option.some.inj (h1.symm.trans hcl)
        cases Option.some.inj (h2.symm.trans hc6)
        exact Or.inr ⟨hz0, _, hcl6, h3⟩) hx (Or.inr ⟨h0, c4, hcl5, hasg⟩)
  obtain ⟨t, a1, b1⟩ := kk (T.setVm vm') hT X'
  exact ⟨t, st.trans a1, b1⟩
end Rows
section Ends
variable {p : Program} {l : Launch} {e : Env} {R : Room} {s : State} {m : MethodId} {args : Array Value} {below : List Frame} {meth : Method} {c : Code} {H : Heap} {locs : List Loc} {cells slots : Nat} {Q : State → Prop}
variable {mc ms : Nat} {free : Addr → Prop} {A0 A1 : Nat → Prop} {H0 : Heap} {a : Array Value} {ls : Array Slot} {st0 rest : List Value}
variable {Qc : Array Value → State → Outcome → State → Prop} {XC : String → State → State → Prop}
/-- what a body that may throw owes at its end -/
def vx_MQ (below : List Frame) (Qc : Array Value → State → Outcome → State → Prop) (XC : String → State → State → Prop) (a : Array Value) (s : State) (mc ms : Nat) (free : Addr → Prop) : State → Prop := fun t =>
  ∃ o, t.status = .running ∧ Ended t below o ∧ vx_Q Qc XC mc ms free a s o t
theorem vx_ret {g : JFrame} {mc ms : Nat} (k : W p l e R s m args below meth c H locs cells slots (MQ below Qc args s mc ms free) g) : W p l e R s m args below meth c H locs cells slots (vx_MQ below Qc XC args s mc ms free) g := by
  intro T hT X
  obtain ⟨t, a1, o, b1, b2, b3, b4⟩ := k T hT X
  exact ⟨t, a1, o, b1, b2, Or.inl ⟨b3, b4⟩⟩
/-- not caught here: it goes on to the caller -/
theorem vx_widen {g : JFrame} {q : Addr} {k n : Nat} (h1 : cells ≤ k) (h2 : slots ≤ n) (kk : vx_W p l e R s m args below meth c H locs k n Q g q) : vx_W p l e R s m args below meth c H locs cells slots Q g q := fun T hT X => kk T hT (stand_widen X h1 h2)
theorem vx_out {pc : Nat} {E : String} {ce : Cell} {q : Addr} {mc ms : Nat} (hout : ∀ x ∈ c.exceptionTable.toList, covers x pc = false) (hlocks : meth.locks = false) (hcell : H[q]? = some ce) (hv : ce.vm = .none) (hcl : s.vm.findClass E = some ce.cls)
    (hx : ∀ t : State, t.heap = H → s.vm.Alike t.vm → XC E s t) (hf : ∀ z ∈ locs, free z.base) (hc : cells ≤ mc) (hs : slots ≤ ms) :
    vx_W p l e R s m args below meth c H locs cells slots (vx_MQ below Qc XC args s mc ms free) (F0 m pc ls rest) q := by
  intro T hT X
  obtain ⟨st1, hrun, hend, hW, hsm⟩ := X.leaveThrown q (g := F0 m pc ls rest) rfl rfl rfl hout hlocks
  have hcell9 : (T.setFrames (.throwing q :: below)).heap[q]? = some ce := by
    show T.heap[q]? = some ce
    rw [hT]; exact hcell
  exact ⟨_, st1, .threw q, hrun, hend, Or.inr ⟨q, rfl, E, ce, locs, hx _ hT hW.alike, hcell9, hv, hcl, hW, hsm.mono hc hs, hf⟩⟩
theorem vx_frame {U : State} {k n : Nat} (h : s.sameButNew ({ U with vm := s.vm } : State) locs k n) : s.heap.size ≤ U.heap.size ∧ ∀ q : Nat, q < s.heap.size → (∀ z ∈ locs, z.base ≠ q) → U.heap[q]? = s.heap[q]? := by
  obtain ⟨-, h2, -, -, -, h6⟩ := h
  refine ⟨h2, fun q hq hz => ?_⟩
  obtain ⟨c9, e1, e2, e3, e4⟩ := h6 q _ (Array.getElem?_eq_getElem hq)
  have hs : c9.slots = (s.heap[q]).slots := Array.ext_getElem? fun i => e4 i fun hm => hz _ hm rfl
  have h9 : c9 = s.heap[q] := by
    rw [hs] at e2
    exact e2
  have e5 : U.heap[q]? = some c9 := e1
  rw [e5, h9, Array.getElem?_eq_getElem hq]
/-- the words of a throw but the four that speak of the heap -/
def vx_no (w : Cond) : Bool := decide (w ≠ .isRef (.static Bundle.tN "UNASSIGNED_STACK" Bundle.steD)) && decide (w ≠ .isRef (.static Bundle.tN "SUPPRESSED_SENTINEL" Bundle.listD)) && decide (w ≠ .laysStatic Bundle.tN "UNASSIGNED_STACK" Bundle.steD) && decide (w ≠ .laysStatic Bundle.tN "SUPPRESSED_SENTINEL" Bundle.listD)
def vx_at0 (own : String) (ic : Nat) (X : String) (names : List String) : List Cond := (Bundle.ownAtoms0 own ic X names).filter vx_no
def vx_atS (own : String) (ic : Nat) (X : String) (names : List String) : List Cond := (Bundle.ownAtoms own ic X names).filter vx_no
/-- a word that the tables alone decide, or a good one -/
def vx_ot (w : Cond) : Bool := w.onTables || goodWord w
theorem vx_ot_at {args a' : Array Value} {s U : State} {w : Cond} (hW : s.WarmedH U.vm) (hvm : s.vm = U.vm) (hg : vx_ot w = true) (h : w.before args s = true) : w.before a' U = true := by
  simp only [vx_ot, Bool.or_eq_true] at hg
  rcases hg with hg | hg
  · exact va_tabs hg hvm h
  · exact word_at hW (good_of_word hg) h
/-- a list's words: the good ones out of the method's own list, the others by premises of their own -/
theorem vx_hat {args : Array Value} {s : State} {L B : List Cond} (h1 : ∀ w ∈ L.filter goodWord, w.before args s = true) (h2 : ∀ w ∈ L.filter (fun w => !goodWord w), w ∈ B) (h3 : ∀ w ∈ B, w.before args s = true) : ∀ w ∈ L, w.before args s = true := by
  intro w hw
  by_cases g : goodWord w = true
  · exact h1 w (List.mem_filter.mpr ⟨hw, g⟩)
  · refine h3 w (h2 w (List.mem_filter.mpr ⟨hw, ?_⟩))
    show (!goodWord w) = true
    cases hgw : goodWord w
    · rfl
    · exact absurd hgw g
theorem vx_c {args : Array Value} {s : State} {w : Cond} {B : List Cond} (h : w.before args s = true) (t : ∀ w ∈ B, w.before args s = true) : ∀ w' ∈ w :: B, w'.before args s = true := fun w' h' => (List.mem_cons.mp h').elim (fun e => by rw [e]; exact h) (t w')
theorem vx_n {args : Array Value} {s : State} : ∀ w ∈ ([] : List Cond), w.before args s = true := fun _ h => nomatch h
theorem vx_own {args : Array Value} {s : State} {L : List Cond} (h1 : ∀ w ∈ L.filter vx_no, w.before args s = true)
    (hU : (Cond.isRef (.static Bundle.tN "UNASSIGNED_STACK" Bundle.steD)).before args s = true) (hN : (Cond.isRef (.static Bundle.tN "SUPPRESSED_SENTINEL" Bundle.listD)).before args s = true)
    (lU : (Cond.laysStatic Bundle.tN "UNASSIGNED_STACK" Bundle.steD).before args s = true) (lN : (Cond.laysStatic Bundle.tN "SUPPRESSED_SENTINEL" Bundle.listD).before args s = true) : ∀ w ∈ L, w.before args s = true := by
  intro w hw
  by_cases e1 : w = .isRef (.static Bundle.tN "UNASSIGNED_STACK" Bundle.steD)
  · rw [e1]; exact hU
  · by_cases e2 : w = .isRef (.static Bundle.tN "SUPPRESSED_SENTINEL" Bundle.listD)
    · rw [e2]; exact hN
    · by_cases e3 : w = .laysStatic Bundle.tN "UNASSIGNED_STACK" Bundle.steD
      · rw [e3]; exact lU
      · by_cases e4 : w = .laysStatic Bundle.tN "SUPPRESSED_SENTINEL" Bundle.listD
        · rw [e4]; exact lN
        · exact h1 w (List.mem_filter.mpr ⟨hw, by unfold vx_no; rw [decide_eq_true e1, decide_eq_true e2, decide_eq_true e3, decide_eq_true e4]; rfl⟩)
/-- where a static field lies, its class's statics cell in H -/
def vx_L (C n d : String) (A : Nat → Prop) (U : State) (H : Heap) : Prop := ∃ (c : ClassId) (k : Class) (i : Nat) (f : Field) (a : Nat) (cell : Cell), U.vm.findClass C = some c ∧ U.fieldFound? C n d = some (c, k, i, f) ∧ f.isStatic = true ∧ k.statics = some a ∧ H[a]? = some cell ∧ cell.vm.isStatics = true ∧ cell.cls = c ∧ f.slot < cell.slots.size ∧ k.staticTypes[f.slot]? = some f.type ∧ ¬ A a
theorem vx_L.moved {C n d : String} {A : Nat → Prop} {u U : State} {H : Heap} (hvm : u.vm.Alike U.vm) (h : vx_L C n d A u H) : vx_L C n d A U H := by
  obtain ⟨c, k, i, f, a, cell, h1, h2, h3, h4, h5, h6, h7, h8, h9, h10⟩ := h
  obtain ⟨k', hi', he⟩ := State.fieldFound?_setVm hvm h2
  exact ⟨c, k', i, f, a, cell, by rw [hvm.findClass]; exact h1, hi', h3, by rw [he]; exact h4, h5, h6, h7, h8, by rw [he]; exact h9, h10⟩
theorem vx_L.kept {C n d : String} {A : Nat → Prop} {U : State} {H H1 : Heap} (h : vx_L C n d A U H) (hq : ∀ a : Nat, a < H.size → ¬ A a → H1[a]? = H[a]?) : vx_L C n d A U H1 := by
  obtain ⟨c, k, i, f, a, cell, h1, h2, h3, h4, h5, h6, h7, h8, h9, h10⟩ := h
  exact ⟨c, k, i, f, a, cell, h1, h2, h3, h4, by rw [hq a (Array.getElem?_eq_some_iff.mp h5).1 h10]; exact h5, h6, h7, h8, h9, h10⟩
theorem vx_L.narrow {C n d : String} {A B : Nat → Prop} {U : State} {H : Heap} (h : vx_L C n d A U H) (hAB : ∀ q, B q → A q) : vx_L C n d B U H := by
  obtain ⟨c, k, i, f, a, cell, h1, h2, h3, h4, h5, h6, h7, h8, h9, h10⟩ := h
  exact ⟨c, k, i, f, a, cell, h1, h2, h3, h4, h5, h6, h7, h8, h9, fun z => h10 (hAB _ z)⟩
theorem vx_L.word {C n d : String} {A : Nat → Prop} {s : State} {args : Array Value} (h : vx_L C n d A s s.heap) : (Cond.laysStatic C n d).before args s = true := by
  obtain ⟨c, k, i, f, a, cell, h1, h2, h3, h4, h5, h6, h7, h8, h9, -⟩ := h
  show (Cond.laysStatic C n d).holds args s none s [] = true
  exact Cond.laysStatic_of h1 h2 h3 h4 h5 h6 h7 h8 h9
/-- .. and what it holds: null or some reference -/
def vx_Zq (C n d : String) (A : Nat → Prop) (U : State) (H : Heap) : Prop := va_Zq C n d A U H ∧ vx_L C n d A U H
theorem vx_Zq.moved {C n d : String} {A : Nat → Prop} {u U : State} {H : Heap} (hvm : u.vm.Alike U.vm) (h : vx_Zq C n d A u H) : vx_Zq C n d A U H := ⟨va_Zq.moved hvm h.1, vx_L.moved hvm h.2⟩
theorem vx_Zq.kept {C n d : String} {A : Nat → Prop} {U : State} {H H1 : Heap} (h : vx_Zq C n d A U H) (hq : ∀ a : Nat, a < H.size → ¬ A a → H1[a]? = H[a]?) : vx_Zq C n d A U H1 := ⟨va_Zq.kept h.1 hq, vx_L.kept h.2 hq⟩
theorem vx_Zq.narrow {C n d : String} {A B : Nat → Prop} {U : State} {H : Heap} (h : vx_Zq C n d A U H) (hAB : ∀ q, B q → A q) : vx_Zq C n d B U H := ⟨va_Zq.narrow h.1 hAB, vx_L.narrow h.2 hAB⟩
theorem vx_Zqof {args : Array Value} {s : State} {C n d : String} {A : Nat → Prop} (hl : (Cond.laysStatic C n d).before args s = true) (hini : (Cond.initialized C).before args s = true) (h : (Cond.isRef (.static C n d)).before args s = true) (hA : ∀ a : Nat, a < s.heap.size → ¬ A a) : vx_Zq C n d A s s.heap := by
  refine ⟨va_Zqof hl hini h hA, ?_⟩
  obtain ⟨c, k, i, f, a, cell, h1, h2, h3, h4, h5, h6, h7, h8, h9⟩ := Cond.laysStatic_spec hl
  exact ⟨c, k, i, f, a, cell, h1, h2, h3, h4, h5, h6, h7, h8, h9, hA a (Array.getElem?_eq_some_iff.mp h5).1⟩
theorem vx_isRef {C n d : String} {v : Value} {A : Nat → Prop} {s : State} {args : Array Value} (h : va_Z C n d v A s s.heap) (hv : v.isRef = true) : (Cond.isRef (.static C n d)).before args s = true := by
  obtain ⟨cf, kf, fi, f, a, cell, h1, h2, h3, h4, h5, h6, h7, -⟩ := h
  have he : (Term.static C n d).eval args s none [] s = some v := by
    simp [Term.eval, State.fieldNamed?, h1, h2, h4, h5, h6, h7]
  simp only [Cond.before, Cond.holds, Cond.value, he]
  cases v <;> simp_all [Value.isRef]
theorem vx_isRefq {C n d : String} {A : Nat → Prop} {s : State} {args : Array Value} (h : va_Zq C n d A s s.heap) : (Cond.isRef (.static C n d)).before args s = true := by
  rcases h with h | ⟨t, h⟩
  · exact vx_isRef h rfl
  · exact vx_isRef h rfl
/-- the same frame, seen from here: as if the method were called anew in this heap -/
theorem vx_rebase {T : State} (X : Stand p l e R s m args below meth c T locs cells slots) {R' : Room} (hf : R'.frames ≤ R.frames) (hl : R'.locals ≤ R.locals) (hc : cells + R'.cells ≤ R.cells) (hs : slots + R'.slots ≤ R.slots) :
    Stand p l e R' ((T.setVm s.vm).setFrames (.invoking m args :: below)) m args below meth c T [] 0 0 := by
  have htop : (T.setVm s.vm).topJava?.isSome := X.here.top
  have hF : ((T.setVm s.vm).setFrames (.invoking m args :: below)).frames = .invoking m args :: below := State.frames_setFrames _ (State.cur_lt_of_top htop)
  obtain ⟨g₀, hg0⟩ := Option.isSome_iff_exists.mp htop
  obtain ⟨r, hr⟩ := State.topJava?_eq_some.mp hg0
  have hl9 : e.platform.stackLimits (T.setVm s.vm).me = e.platform.stackLimits s.me := X.limits
  have hb9 : (T.setVm s.vm).me.stackBytes = s.me.stackBytes := X.bytes
  refine ⟨X.admits, X.cas, X.clock, hF, ?_, X.hears, X.method, X.code, X.here, X.tail, X.warmed, ?_, ?_, ?_⟩
  · have h := X.room
    have hU : ((T.setVm s.vm).setFrames (.invoking m args :: below)).localsInUse = s.localsInUse := by
      rw [State.localsInUse_invoking hF (meth := meth) (c := c) X.method X.code, State.localsInUse_invoking X.frames X.method X.code]
    simp only [State.hasRoom, Bool.and_eq_true, decide_eq_true_eq] at h ⊢
    obtain ⟨⟨⟨⟨h1, h2, h3, h4, h5, h6⟩, h7⟩, h8⟩, h9⟩ := h
    rw [X.frames, List.length_cons] at h2 h3
    have q1 := X.heapSize
    have q2 := X.used
    simp only [hF, hU, List.length_cons, State.stackLimits_setFrames, State.stackBytes_setFrames, hl9, hb9]
    refine ⟨⟨⟨⟨by omega, by omega, by omega, by omega, by omega, h6⟩, ?_⟩, ?_⟩, X.book⟩
    · show T.heap.size + R'.cells ≤ e.platform.maxCells
      omega
    · show T.slotsUsed + R'.slots ≤ e.platform.maxSlots
      omega
  · rw [State.stackLimits_setFrames]; rfl
  · rw [State.stackBytes_setFrames]; rfl
  · refine ⟨?_, Nat.le_refl _, Nat.le_refl _, ?_, ?_, fun a c9 h9 => ⟨c9, h9, rfl, rfl, fun _ _ => rfl⟩⟩
    · obtain ⟨t, ht, -⟩ := State.frames_cons hr
      show T.setVm s.vm = { ((T.setVm s.vm).setFrames (.invoking m args :: below)).setFrames (T.setVm s.vm).frames with heap := T.heap, slotsUsed := T.slotsUsed }
      rw [State.setFrames_setFrames, State.setFrames_self ht]
      rfl
    · show T.slotsUsed = T.slotsUsed + ((T.heap.toList.drop T.heap.size).map (·.slots.size)).sum
      rw [List.drop_eq_nil_of_le (Nat.le_of_eq Array.length_toList)]
      rfl
    · show ((T.heap.toList.drop T.heap.size).map (·.slots.size)).sum ≤ 0
      rw [List.drop_eq_nil_of_le (Nat.le_of_eq Array.length_toList)]
      exact Nat.le_refl _
/-- 'throw new E()': new; dup; invokespecial; athrow -/
theorem vx_throw0 {cc : ByteArray} {pc : Nat} (hexec : p.tables.exec = Jvm.exec) (hb : c.code = cc) (hl : l.stackTraces = false) {own cls : String} {names : List String} {ik ic mc ms : Nat} {A : Nat → Prop}
    (hown : s.vm.findClass own = some m.cls) (hcls : Bundle.fit cls = true) (hnames : ∀ n ∈ names, Bundle.fit n = true)
    (hk : (Cond.classLink own ik cls).before args s = true) (hini : (Cond.initialized cls).before args s = true) (hat : ∀ w ∈ vx_at0 own ic cls names, w.before args s = true)
    (hgood : ∀ w ∈ Cond.classLink own ik cls :: Cond.initialized cls :: vx_at0 own ic cls names, vx_ot w = true)
    (hU : vx_Zq Bundle.tN "UNASSIGNED_STACK" Bundle.steD A s s.heap) (hN : vx_Zq Bundle.tN "SUPPRESSED_SENTINEL" Bundle.listD A s s.heap) (hS : va_S A s.heap H locs) (hsize : ls.size = c.maxLocals)
    (d0 : decode cc pc = .ok (.new ik, 3)) (d3 : decode cc (pc + 3) = .ok (.dup, 1)) (d4 : decode cc (pc + 4) = .ok (.invokespecial ic, 3)) (d7 : decode cc (pc + 7) = .ok (.athrow, 1))
    (hout : ∀ x ∈ c.exceptionTable.toList, covers x (pc + 7) = false)
    (hRframes : names.length + 3 < R.frames) (hRlocals : (rest.map fun v => v.category).sum + (13 * (names.length + 1) + 42) ≤ R.locals) (hRcells : cells + 1 ≤ R.cells) (hRslots : slots + 6 ≤ R.slots) (hlocks : meth.locks = false)
    (hx : ∀ t : State, s.vm.Alike t.vm → H.size ≤ t.heap.size → (∀ q : Nat, q < H.size → t.heap[q]? = H[q]?) → XC cls s t)
    (hf : ∀ z ∈ locs, free z.base) (hc : cells + 1 ≤ mc) (hs : slots + 6 ≤ ms) :
    W p l e R s m args below meth c H locs cells slots (vx_MQ below Qc XC args s mc ms free) (F0 m pc ls rest) := by
  intro T hT X
  have htr : e.platform.stackTraces = false := (show e.platform.stackTraces = l.stackTraces by rw [X.admits.platform]).trans hl
  have Y := vx_rebase X (R' := { frames := R.frames, locals := R.locals, cells := 1, slots := 6 }) (Nat.le_refl _) (Nat.le_refl _) hRcells hRslots
  obtain ⟨s', hA⟩ : ∃ z, z = (T.setVm s.vm).setFrames (.invoking m args :: below) := ⟨_, rfl⟩
  rw [← hA] at Y
  have hvm : s'.vm = s.vm := by rw [hA]; rfl
  have hhp : s'.heap = H := by rw [hA]; exact hT
  have hW0 : s.WarmedH s'.vm := by rw [hvm]; exact State.WarmedH.refl s
  have hat' : ∀ w ∈ vx_at0 own ic cls names, w.before args s' = true := fun w hw => vx_ot_at hW0 hvm.symm (hgood w (List.mem_cons_of_mem _ (List.mem_cons_of_mem _ hw))) (hat w hw)
  have hk' : (Cond.classLink own ik cls).before args s' = true := vx_ot_at hW0 hvm.symm (hgood _ List.mem_cons_self) hk
  have hini' : (Cond.initialized cls).before args s' = true := vx_ot_at hW0 hvm.symm (hgood _ (List.mem_cons_of_mem _ List.mem_cons_self)) hini
  have hU' : vx_Zq Bundle.tN "UNASSIGNED_STACK" Bundle.steD A s' s'.heap := by rw [hhp]; exact vx_Zq.moved hW0.alike (hU.kept hS.2.1)
  have hN' : vx_Zq Bundle.tN "SUPPRESSED_SENTINEL" Bundle.listD A s' s'.heap := by rw [hhp]; exact vx_Zq.moved hW0.alike (hN.kept hS.2.1)
  have h : ∀ w ∈ Bundle.ownAtoms0 own ic cls names, w.before args s' = true := vx_own hat' (vx_isRefq hU'.1) (vx_isRefq hN'.1) hU'.2.word hN'.2.word
  have hown' : s'.vm.findClass own = some m.cls := by rw [hvm]; exact hown
  have hins : (Cond.instantiable cls 6).before args s' = true := h _ (by simp [Bundle.ownAtoms0])
  obtain ⟨vm₁, cX, kX, hfX, hkX, -, -, X₁, st1⟩ := Y.newCold hexec (own := own) (C := cls) (index := ik) (n := 6) hown' hk' hins hini'
    (g := F0 m pc ls rest) rfl (by rw [hb]; exact d0) (Nat.le_refl _) (Nat.le_refl _)
  generalize hT1 : (T.setVm vm₁).pushCell { cls := cX, slots := kX.instanceTypes.map defaultValue, vm := .none } = T1 at X₁ st1
  have hcat : (Value.ref T.heap.size).category = 1 := rfl
  have hcellA : T1.heap[T.heap.size]? = some (freshCell cX kX) := by rw [← hT1]; exact State.heap_pushCell_size _ _
  have d3' : decode c.code (pc + 3) = .ok (.dup, 1) := by rw [hb]; exact d3
  obtain ⟨U, hsteps, hrun, hend, hW, hsame, ce, hce, hO⟩ := X₁.ctorThrow0 hexec htr (own := own) (cls := cls) (names := names) (ic := ic) hown' hcls hnames h (fun x hx => nomatch hx) hfX hkX hcellA (by rw [hhp, hT]; exact Nat.le_refl _)
    (g := { method := m, pc := pc + 4, locals := ls, stack := .ref T.heap.size :: .ref T.heap.size :: rest, locked := none }) rfl hsize rfl rfl (rest := rest) rfl
    (by rw [hb]; exact d4) (by rw [hb]; exact d7) hout hRframes (by simp only [List.map_cons, List.sum_cons, hcat]; omega) hlocks
  obtain ⟨f1, f2⟩ := vx_frame hsame
  rw [hhp] at f1 f2
  have hWs : s.WarmedH U.vm := State.WarmedH.trans hW0 hW
  have hcl : s.vm.findClass cls = some ce.cls := by
    have h9 := hO.cls
    rw [hvm] at h9
    exact h9
  have hall : s.sameButNew ({ U with vm := s.vm } : State) locs mc ms := by
    subst hA
    obtain ⟨e1, e2⟩ := hsame
    rw [State.setFrames_setFrames] at e1
    have h2 : (T.setVm s.vm).sameButNew ({ U with vm := s.vm } : State) [] (0 + 1) (0 + 6) := ⟨e1, e2⟩
    have h3 := X.same.trans h2
    rw [List.append_nil] at h3
    exact h3.mono hc hs
  refine ⟨U, ?_, .threw T.heap.size, hrun, hend, Or.inr ⟨T.heap.size, rfl, cls, ce, locs, hx U hWs.alike f1 (fun q hq => f2 q hq (fun z hz => nomatch hz)), hce, hO.vm, hcl, hWs, hall, hf⟩⟩
  refine st1 _ ?_
  show Steps p.tables e below (T1.setTop { method := m, pc := pc + 3, locals := ls, stack := .ref T.heap.size :: rest, locked := none }) _
  jvm_step X₁.here [X₁.here.top, hexec, d3', Value.category]
  exact hsteps
/-- 'throw new E("text")': new; dup; ldc; invokespecial; athrow -/
theorem vx_throwS {cc : ByteArray} {pc : Nat} (hexec : p.tables.exec = Jvm.exec) (hb : c.code = cc) (hl : l.stackTraces = false) {own cls text : String} {names : List String} {ik is ic mc ms sa : Nat} {A : Nat → Prop}
    (hown : s.vm.findClass own = some m.cls) (hcls : Bundle.fit cls = true) (hnames : ∀ n ∈ names, Bundle.fit n = true)
    (hk : (Cond.classLink own ik cls).before args s = true) (hini : (Cond.initialized cls).before args s = true) (hstr : vk_R own is text sa s) (hat : ∀ w ∈ vx_atS own ic cls names, w.before args s = true)
    (hgood : ∀ w ∈ Cond.classLink own ik cls :: Cond.initialized cls :: vx_atS own ic cls names, vx_ot w = true)
    (hU : vx_Zq Bundle.tN "UNASSIGNED_STACK" Bundle.steD A s s.heap) (hN : vx_Zq Bundle.tN "SUPPRESSED_SENTINEL" Bundle.listD A s s.heap) (hS : va_S A s.heap H locs) (hsize : ls.size = c.maxLocals)
    (d0 : decode cc pc = .ok (.new ik, 3)) (d3 : decode cc (pc + 3) = .ok (.dup, 1)) (d4 : decode cc (pc + 4) = .ok (.ldc is, 2)) (d6 : decode cc (pc + 6) = .ok (.invokespecial ic, 3)) (d9 : decode cc (pc + 9) = .ok (.athrow, 1))
    (hout : ∀ x ∈ c.exceptionTable.toList, covers x (pc + 9) = false)
    (hRframes : names.length + 3 < R.frames) (hRlocals : (rest.map fun v => v.category).sum + (13 * (names.length + 1) + 43) ≤ R.locals) (hRcells : cells + 1 ≤ R.cells) (hRslots : slots + 6 ≤ R.slots) (hlocks : meth.locks = false)
    (hx : ∀ t : State, s.vm.Alike t.vm → H.size ≤ t.heap.size → (∀ q : Nat, q < H.size → t.heap[q]? = H[q]?) → XC cls s t)
    (hf : ∀ z ∈ locs, free z.base) (hc : cells + 1 ≤ mc) (hs : slots + 6 ≤ ms) :
    W p l e R s m args below meth c H locs cells slots (vx_MQ below Qc XC args s mc ms free) (F0 m pc ls rest) := by
  intro T hT X
  have htr : e.platform.stackTraces = false := (show e.platform.stackTraces = l.stackTraces by rw [X.admits.platform]).trans hl
  have Y := vx_rebase X (R' := { frames := R.frames, locals := R.locals, cells := 1, slots := 6 }) (Nat.le_refl _) (Nat.le_refl _) hRcells hRslots
  obtain ⟨s', hA⟩ : ∃ z, z = (T.setVm s.vm).setFrames (.invoking m args :: below) := ⟨_, rfl⟩
  rw [← hA] at Y
  have hvm : s'.vm = s.vm := by rw [hA]; rfl
  have hhp : s'.heap = H := by rw [hA]; exact hT
  have hW0 : s.WarmedH s'.vm := by rw [hvm]; exact State.WarmedH.refl s
  have hat' : ∀ w ∈ vx_atS own ic cls names, w.before args s' = true := fun w hw => vx_ot_at hW0 hvm.symm (hgood w (List.mem_cons_of_mem _ (List.mem_cons_of_mem _ hw))) (hat w hw)
  have hk' : (Cond.classLink own ik cls).before args s' = true := vx_ot_at hW0 hvm.symm (hgood _ List.mem_cons_self) hk
  have hini' : (Cond.initialized cls).before args s' = true := vx_ot_at hW0 hvm.symm (hgood _ (List.mem_cons_of_mem _ List.mem_cons_self)) hini
  have hU' : vx_Zq Bundle.tN "UNASSIGNED_STACK" Bundle.steD A s' s'.heap := by rw [hhp]; exact vx_Zq.moved hW0.alike (hU.kept hS.2.1)
  have hN' : vx_Zq Bundle.tN "SUPPRESSED_SENTINEL" Bundle.listD A s' s'.heap := by rw [hhp]; exact vx_Zq.moved hW0.alike (hN.kept hS.2.1)
  have h : ∀ w ∈ Bundle.ownAtoms own ic cls names, w.before args s' = true := vx_own hat' (vx_isRefq hU'.1) (vx_isRefq hN'.1) hU'.2.word hN'.2.word
  have hown' : s'.vm.findClass own = some m.cls := by rw [hvm]; exact hown
  have hins : (Cond.instantiable cls 6).before args s' = true := h _ (by simp [Bundle.ownAtoms])
  obtain ⟨vm₁, cX, kX, hfX, hkX, -, -, X₁, st1⟩ := Y.newCold hexec (own := own) (C := cls) (index := ik) (n := 6) hown' hk' hins hini'
    (g := F0 m pc ls rest) rfl (by rw [hb]; exact d0) (Nat.le_refl _) (Nat.le_refl _)
  generalize hT1 : (T.setVm vm₁).pushCell { cls := cX, slots := kX.instanceTypes.map defaultValue, vm := .none } = T1 at X₁ st1
  have hcat : (Value.ref T.heap.size).category = 1 := rfl
  have hcellA : T1.heap[T.heap.size]? = some (freshCell cX kX) := by rw [← hT1]; exact State.heap_pushCell_size _ _
  have d3' : decode c.code (pc + 3) = .ok (.dup, 1) := by rw [hb]; exact d3
  have d4' : decode c.code (pc + 4) = .ok (.ldc is, 2) := by rw [hb]; exact d4
  have hstr' : vk_R own is text sa s' := vk_R.warm hW0 hstr
  obtain ⟨U, hsteps, hrun, hend, hW, hsame, ce, hce, hO⟩ := X₁.ctorThrowS hexec htr (own := own) (cls := cls) (names := names) (ic := ic) hown' hcls hnames h (fun x hx => nomatch hx) hfX hkX hcellA (by rw [hhp, hT]; exact Nat.le_refl _) (msg := .ref sa) rfl
    (g := { method := m, pc := pc + 6, locals := ls, stack := .ref sa :: .ref T.heap.size :: .ref T.heap.size :: rest, locked := none }) rfl hsize rfl rfl (rest := rest) rfl
    (by rw [hb]; exact d6) (by rw [hb]; exact d9) hout hRframes (by simp only [List.map_cons, List.sum_cons, hcat]; omega) hlocks
  obtain ⟨f1, f2⟩ := vx_frame hsame
  rw [hhp] at f1 f2
  have hWs : s.WarmedH U.vm := State.WarmedH.trans hW0 hW
  have hcl : s.vm.findClass cls = some ce.cls := by
    have h9 := hO.cls
    rw [hvm] at h9
    exact h9
  have hall : s.sameButNew ({ U with vm := s.vm } : State) locs mc ms := by
    subst hA
    obtain ⟨e1, e2⟩ := hsame
    rw [State.setFrames_setFrames] at e1
    have h2 : (T.setVm s.vm).sameButNew ({ U with vm := s.vm } : State) [] (0 + 1) (0 + 6) := ⟨e1, e2⟩
    have h3 := X.same.trans h2
    rw [List.append_nil] at h3
    exact h3.mono hc hs
  refine ⟨U, ?_, .threw T.heap.size, hrun, hend, Or.inr ⟨T.heap.size, rfl, cls, ce, locs, hx U hWs.alike f1 (fun q hq => f2 q hq (fun z hz => nomatch hz)), hce, hO.vm, hcl, hWs, hall, hf⟩⟩
  refine st1 _ ?_
  show Steps p.tables e below (T1.setTop { method := m, pc := pc + 3, locals := ls, stack := .ref T.heap.size :: rest, locked := none }) _
  jvm_step X₁.here [X₁.here.top, hexec, d3', Value.category]
  exact X₁.ldcString hexec (own := own) (text := text) (index := is) (a := sa) hown' hstr'.1 hstr'.2
    (g := { method := m, pc := pc + 4, locals := ls, stack := .ref T.heap.size :: .ref T.heap.size :: rest, locked := none }) rfl d4' _ hsteps
/-- 'throw new E("text")', the text by a wide index -/
theorem vx_throwSW {cc : ByteArray} {pc : Nat} (hexec : p.tables.exec = Jvm.exec) (hb : c.code = cc) (hl : l.stackTraces = false) {own cls text : String} {names : List String} {ik is ic mc ms sa : Nat} {A : Nat → Prop}
    (hown : s.vm.findClass own = some m.cls) (hcls : Bundle.fit cls = true) (hnames : ∀ n ∈ names, Bundle.fit n = true)
    (hk : (Cond.classLink own ik cls).before args s = true) (hini : (Cond.initialized cls).before args s = true) (hstr : vk_R own is text sa s) (hat : ∀ w ∈ vx_atS own ic cls names, w.before args s = true)
    (hgood : ∀ w ∈ Cond.classLink own ik cls :: Cond.initialized cls :: vx_atS own ic cls names, vx_ot w = true)
    (hU : vx_Zq Bundle.tN "UNASSIGNED_STACK" Bundle.steD A s s.heap) (hN : vx_Zq Bundle.tN "SUPPRESSED_SENTINEL" Bundle.listD A s s.heap) (hS : va_S A s.heap H locs) (hsize : ls.size = c.maxLocals)
    (d0 : decode cc pc = .ok (.new ik, 3)) (d3 : decode cc (pc + 3) = .ok (.dup, 1)) (d4 : decode cc (pc + 4) = .ok (.ldc_w is, 3)) (d7 : decode cc (pc + 7) = .ok (.invokespecial ic, 3)) (d10 : decode cc (pc + 10) = .ok (.athrow, 1))
    (hout : ∀ x ∈ c.exceptionTable.toList, covers x (pc + 10) = false)
    (hRframes : names.length + 3 < R.frames) (hRlocals : (rest.map fun v => v.category).sum + (13 * (names.length + 1) + 43) ≤ R.locals) (hRcells : cells + 1 ≤ R.cells) (hRslots : slots + 6 ≤ R.slots) (hlocks : meth.locks = false)
    (hx : ∀ t : State, s.vm.Alike t.vm → H.size ≤ t.heap.size → (∀ q : Nat, q < H.size → t.heap[q]? = H[q]?) → XC cls s t)
    (hf : ∀ z ∈ locs, free z.base) (hc : cells + 1 ≤ mc) (hs : slots + 6 ≤ ms) :
    W p l e R s m args below meth c H locs cells slots (vx_MQ below Qc XC args s mc ms free) (F0 m pc ls rest) := by
  intro T hT X
  have htr : e.platform.stackTraces = false := (show e.platform.stackTraces = l.stackTraces by rw [X.admits.platform]).trans hl
  have Y := vx_rebase X (R' := { frames := R.frames, locals := R.locals, cells := 1, slots := 6 }) (Nat.le_refl _) (Nat.le_refl _) hRcells hRslots
  obtain ⟨s', hA⟩ : ∃ z, z = (T.setVm s.vm).setFrames (.invoking m args :: below) := ⟨_, rfl⟩
  rw [← hA] at Y
  have hvm : s'.vm = s.vm := by rw [hA]; rfl
  have hhp : s'.heap = H := by rw [hA]; exact hT
  have hW0 : s.WarmedH s'.vm := by rw [hvm]; exact State.WarmedH.refl s
  have hat' : ∀ w ∈ vx_atS own ic cls names, w.before args s' = true := fun w hw => vx_ot_at hW0 hvm.symm (hgood w (List.mem_cons_of_mem _ (List.mem_cons_of_mem _ hw))) (hat w hw)
  have hk' : (Cond.classLink own ik cls).before args s' = true := vx_ot_at hW0 hvm.symm (hgood _ List.mem_cons_self) hk
  have hini' : (Cond.initialized cls).before args s' = true := vx_ot_at hW0 hvm.symm (hgood _ (List.mem_cons_of_mem _ List.mem_cons_self)) hini
  have hU' : vx_Zq Bundle.tN "UNASSIGNED_STACK" Bundle.steD A s' s'.heap := by rw [hhp]; exact vx_Zq.moved hW0.alike (hU.kept hS.2.1)
  have hN' : vx_Zq Bundle.tN "SUPPRESSED_SENTINEL" Bundle.listD A s' s'.heap := by rw [hhp]; exact vx_Zq.moved hW0.alike (hN.kept hS.2.1)
  have h : ∀ w ∈ Bundle.ownAtoms own ic cls names, w.before args s' = true := vx_own hat' (vx_isRefq hU'.1) (vx_isRefq hN'.1) hU'.2.word hN'.2.word
  have hown' : s'.vm.findClass own = some m.cls := by rw [hvm]; exact hown
  have hins : (Cond.instantiable cls 6).before args s' = true := h _ (by simp [Bundle.ownAtoms])
  obtain ⟨vm₁, cX, kX, hfX, hkX, -, -, X₁, st1⟩ := Y.newCold hexec (own := own) (C := cls) (index := ik) (n := 6) hown' hk' hins hini'
    (g := F0 m pc ls rest) rfl (by rw [hb]; exact d0) (Nat.le_refl _) (Nat.le_refl _)
  generalize hT1 : (T.setVm vm₁).pushCell { cls := cX, slots := kX.instanceTypes.map defaultValue, vm := .none } = T1 at X₁ st1
  have hcat : (Value.ref T.heap.size).category = 1 := rfl
  have hcellA : T1.heap[T.heap.size]? = some (freshCell cX kX) := by rw [← hT1]; exact State.heap_pushCell_size _ _
  have d3' : decode c.code (pc + 3) = .ok (.dup, 1) := by rw [hb]; exact d3
  have d4' : decode c.code (pc + 4) = .ok (.ldc_w is, 3) := by rw [hb]; exact d4
  have hstr' : vk_R own is text sa s' := vk_R.warm hW0 hstr
  obtain ⟨U, hsteps, hrun, hend, hW, hsame, ce, hce, hO⟩ := X₁.ctorThrowS hexec htr (own := own) (cls := cls) (names := names) (ic := ic) hown' hcls hnames h (fun x hx => nomatch hx) hfX hkX hcellA (by rw [hhp, hT]; exact Nat.le_refl _) (msg := .ref sa) rfl
    (g := { method := m, pc := pc + 7, locals := ls, stack := .ref sa :: .ref T.heap.size :: .ref T.heap.size :: rest, locked := none }) rfl hsize rfl rfl (rest := rest) rfl
    (by rw [hb]; exact d7) (by rw [hb]; exact d10) hout hRframes (by simp only [List.map_cons, List.sum_cons, hcat]; omega) hlocks
  obtain ⟨f1, f2⟩ := vx_frame hsame
  rw [hhp] at f1 f2
  have hWs : s.WarmedH U.vm := State.WarmedH.trans hW0 hW
  have hcl : s.vm.findClass cls = some ce.cls := by
    have h9 := hO.cls
    rw [hvm] at h9
    exact h9
  have hall : s.sameButNew ({ U with vm := s.vm } : State) locs mc ms := by
    subst hA
    obtain ⟨e1, e2⟩ := hsame
    rw [State.setFrames_setFrames] at e1
    have h2 : (T.setVm s.vm).sameButNew ({ U with vm := s.vm } : State) [] (0 + 1) (0 + 6) := ⟨e1, e2⟩
    have h3 := X.same.trans h2
    rw [List.append_nil] at h3
    exact h3.mono hc hs
  refine ⟨U, ?_, .threw T.heap.size, hrun, hend, Or.inr ⟨T.heap.size, rfl, cls, ce, locs, hx U hWs.alike f1 (fun q hq => f2 q hq (fun z hz => nomatch hz)), hce, hO.vm, hcl, hWs, hall, hf⟩⟩
  refine st1 _ ?_
  show Steps p.tables e below (T1.setTop { method := m, pc := pc + 3, locals := ls, stack := .ref T.heap.size :: rest, locked := none }) _
  jvm_step X₁.here [X₁.here.top, hexec, d3', Value.category]
  exact X₁.ldcStringW hexec (own := own) (text := text) (index := is) (a := sa) hown' hstr'.1 hstr'.2
    (g := { method := m, pc := pc + 4, locals := ls, stack := .ref T.heap.size :: .ref T.heap.size :: rest, locked := none }) rfl d4' _ hsteps
end Ends
section Bodies
variable {l : Launch}
theorem vx_ofW {y : MethodName} {ws ws' : List Cond} {rm : Room} {Pc : Array Value → State → Prop} {Qc : Array Value → State → Outcome → State → Prop} {XC : String → State → State → Prop} {mc ms : Nat} {free : Addr → Prop} {cc : ByteArray} {maxL : Nat} {ret : Option FieldType}
    (hy : plainName y.cls = true) (hw : ws = Cond.code y cc maxL ret :: ws')
    (body : ∀ p e s m args below meth c s₁, BodyLoose p l y (headSpec ws rm) cc maxL ret e s m args below meth c s₁ → c.maxLocals = maxL → (∀ x ∈ c.exceptionTable.toList, False) → Pc args s →
      W p l e (headSpec ws rm).room s m args below meth c s.heap [] 0 0 (vx_MQ below Qc XC args s mc ms free) (entryFrame m args maxL)) : vx_Met l y ws rm Pc Qc XC mc ms free := by
  refine MetFree.of_bodyS (code := cc) (maxLocals := maxL) (ret := ret) hy ?_ ?_
  · intro args s m h hn
    obtain ⟨meth, c, h1, h2, h3, h4, h5, h6, -, -⟩ := Cond.code_spec hn (atoms_spec (ws := ws) h _ (by rw [hw]; exact List.mem_cons_self))
    exact ⟨meth, c, h1, h2, h3, h4, h5, h6⟩
  · intro p e s m args below meth c s₁ B hml hP _
    have hh0 : s₁.heap = s.heap := by rw [B.state]; rfl
    have ht : ∀ x ∈ c.exceptionTable.toList, False := by
      obtain ⟨meth9, c9, h1, h2, -, -, -, -, h7, -⟩ := Cond.code_spec B.named (atoms_spec (ws := ws) B.pre _ (by rw [hw]; exact List.mem_cons_self))
      cases Option.some.inj (h1.symm.trans B.method)
      cases Option.some.inj (h2.symm.trans (Stand.of_body B).code)
      intro x hx
      rw [Array.isEmpty_iff.mp h7] at hx
      cases hx
    obtain ⟨t, a1, o, b1, b2, b3⟩ := body p e s m args below meth c s₁ B hml ht hP s₁ hh0 (Stand.of_body B)
    exact ⟨t, o, a1, b1, b2, b3⟩
/-- the table of a body with handlers -/
theorem vx_table {p : Program} {x y : MethodName} {S : Spec} {cc bytes : ByteArray} {maxL maxL' : Nat} {ret ret' : Option FieldType} {e : Env} {s s₁ : State} {m : MethodId} {args : Array Value} {below : List Frame} {meth : Method} {c : Code} {hh : List (Nat × Nat × Nat × Nat)}
    (B : BodyLoose p l y S cc maxL ret e s m args below meth c s₁) (h : (Cond.codeWith y bytes maxL' ret' hh).before args s = true) : c.exceptionTable.toList = tableOf hh := by
  obtain ⟨m9, meth9, c9, hn9, h1, h2, -, -, h6, -⟩ := Cond.codeWith_spec h
  cases Option.some.inj (hn9.symm.trans B.named)
  cases Option.some.inj (h1.symm.trans B.method)
  cases Option.some.inj (h2.symm.trans (Stand.of_body B).code)
  rw [← h6, table_eq]
end Bodies
end VXA
/-! ===== END ===== -/
/-! ===== BEGIN a static call of a method with an exception table ===== -/
section VXS
variable {p : Program} {l : Launch} {e : Env} {R : Room} {s : State} {m : MethodId} {args : Array Value} {below : List Frame} {meth : Method} {c : Code} {T : State} {H : Heap} {locs : List Loc} {cells slots : Nat}
abbrev vx_CSW (R : Room) (s : State) (args : Array Value) (own : String) (index : Nat) (y : MethodName) (bytes : ByteArray) (maxL : Nat) (ret : Option FieldType) (hh : List (Nat × Nat × Nat × Nat)) (ws : List Cond) (rm : Room) (mc ms n : Nat) : Prop :=
  (rm.cells = mc ∧ rm.slots = ms ∧ rm.frames + 1 ≤ R.frames ∧ 8 + (maxL + 11) + rm.locals ≤ R.locals ∧ (∀ w ∈ ws, ∀ (a' : Array Value) (U : State), s.WarmedH U.vm → w.before a' U = true) ∧ Cond.codeWith y bytes maxL ret hh ∈ ws) ∧
  (Cond.codeWith y bytes maxL ret hh).before args s = true ∧ (Cond.initialized y.cls).before args s = true ∧ (y.cls ≠ "java/lang/invoke/MethodHandle" ∧ y.cls ≠ "java/lang/invoke/VarHandle") ∧
  (∀ sig, parseMethodDescriptor y.desc = some sig → n = sig.parameters.length) ∧ (Cond.methodLink own index y).before args s = true ∧ (Cond.static y).before args s = true
theorem vx_cwSW {own : String} {index maxL mc ms : Nat} {y : MethodName} {bytes : ByteArray} {ret : Option FieldType} {hh : List (Nat × Nat × Nat × Nat)} {Ts ws ws' : List Cond} {rm : Room} (n : Nat) (ht : ∀ w ∈ Ts, w.before args s = true) (hT : GoodIn Ts (va_wsS own index y ws)) (hw : ws = Cond.codeWith y bytes maxL ret hh :: ws') (hrc : rm.cells = mc) (hrs : rm.slots = ms)
    (hd : y.cls ≠ "java/lang/invoke/MethodHandle" ∧ y.cls ≠ "java/lang/invoke/VarHandle" ∧ (parseMethodDescriptor y.desc).map (fun d => d.parameters.length) = some n) (hR : rm.frames + 1 ≤ R.frames ∧ 8 + (maxL + 11) + rm.locals ≤ R.locals) :
    vx_CSW R s args own index y bytes maxL ret hh ws rm mc ms n := by
  have ok : ∀ w ∈ va_wsS own index y ws, w.before args s = true := fun w h => ht w (hT w h).1
  have hG : GoodIn Ts ws := fun w h => hT w (by unfold va_wsS; exact List.mem_append_right _ h)
  have hc : Cond.codeWith y bytes maxL ret hh ∈ ws := by rw [hw]; exact List.mem_cons_self
  refine ⟨⟨hrc, hrs, hR.1, hR.2, pay_in ht hG, hc⟩, ht _ (hG _ hc).1, ok _ (by simp [va_wsS]), ⟨hd.1, hd.2.1⟩, fun sig h => ?_, ok _ (by simp [va_wsS]), ok _ (by simp [va_wsS])⟩
  have h2 := hd.2.2
  rw [h] at h2
  exact (Option.some.inj h2).symm
theorem vx_callSW (X : Stand p l e R s m args below meth c T locs cells slots) (hexec : p.tables.exec = Jvm.exec) {own : String} {index : Nat} {y : MethodName} {bytes : ByteArray} {maxL : Nat} {ret : Option FieldType} {hh : List (Nat × Nat × Nat × Nat)}
    (hown : s.vm.findClass own = some m.cls) (hlink : (Cond.methodLink own index y).before args s = true) (hstat : (Cond.static y).before args s = true) (hinit : (Cond.initialized y.cls).before args s = true)
    (hcode : (Cond.codeWith y bytes maxL ret hh).before args s = true) (hy : y.cls ≠ "java/lang/invoke/MethodHandle" ∧ y.cls ≠ "java/lang/invoke/VarHandle")
    {W9 : Nat} {Pre : Pt → Array Value → Prop} {Post : Pt → Array Value → Option Value → Pt → Prop} (hK : Back l R p e below s args y 3 W9 Pre Post)
    {g : JFrame} (hg : g.method = m) (hsize : g.locals.size = c.maxLocals) {argsL rest : List Value} (hlen : ∀ sig, parseMethodDescriptor y.desc = some sig → argsL.length = sig.parameters.length)
    (hstack : g.stack = argsL.reverse ++ rest) (hW : 2 * g.monitorRoom + (rest.map fun v => v.category).sum ≤ W9) (hdg : decode c.code g.pc = .ok (.invokestatic index, 3))
    (hpre : ∀ vm₁, s.WarmedH vm₁ → Pre ⟨T.setVm vm₁, locs, cells, slots⟩ argsL.toArray) :
    ∃ (v : Option Value) (vm₁ : Vm) (B : Pt), s.WarmedH vm₁ ∧ Stand p l e R s m args below meth c B.U B.locs B.cells B.slots ∧ Post ⟨T.setVm vm₁, locs, cells, slots⟩ argsL.toArray v B ∧
      ∀ target, Steps p.tables e below (B.U.setTop { g with pc := g.pc + 3, stack := v.toList ++ rest }) target → Steps p.tables e below (T.setTop g) target := by
  obtain ⟨mk, methM, cM, hnamed, hmethM, -, -, -, -, -, -, hsigM⟩ := Cond.codeWith_spec hcode
  have hstatic : methM.isStatic = true := Cond.static_spec hnamed hmethM hstat
  obtain ⟨kP, hkP, -⟩ := className_of_methodNamed hnamed
  have hinitP : kP.init = .initialized := Cond.initialized_spec (findClass_of_methodNamed hnamed) hkP hinit
  obtain ⟨vm₁, X₁, hstep₁⟩ := X.invokestatic hexec hown hlink hnamed hmethM hstatic hkP hinitP hy (g := g) hg (argsL := argsL) (rest := rest) (hlen _ hsigM) hstack hdg
  obtain ⟨v, B, X', hpost, hsteps⟩ := hK m meth c ⟨T.setVm vm₁, locs, cells, slots⟩ { g with stack := rest } (.invokestatic index) mk argsL.toArray X₁ hg hsize hdg hW (X₁.named hnamed) (hpre vm₁ X₁.warmed)
  exact ⟨v, vm₁, B, X₁.warmed, X', hpost, fun target h => hstep₁ _ fun acts => by rw [doInvoke_state]; exact hsteps.trans h⟩
theorem vx_runSW {y : MethodName} {bytes cc : ByteArray} {maxL nL mc ms n index : Nat} {ret : Option FieldType} {hh : List (Nat × Nat × Nat × Nat)} {ws : List Cond} {rm : Room} {Pc : Array Value → State → Prop} {Qc : Array Value → State → Outcome → State → Prop} {free : Addr → Prop} {Ts : List Cond} {own : String} {As rest : List Value} {g : JFrame}
    (S : CallFix p m c cc nL s args Ts own) (hM : Met l y ws rm Pc Qc mc ms free) (cw : vx_CSW R s args own index y bytes maxL ret hh ws rm mc ms n) (hp : PreS s H Pc As)
    (hg : g.method = m) (hn : As.length = n) (hsize : g.locals.size = nL) (hstack : g.stack = As.reverse ++ rest) (hW : 2 * g.monitorRoom + (rest.map fun v => v.category).sum ≤ 8) (hdg : decode cc g.pc = .ok (.invokestatic index, 3)) (hf : cells + mc ≤ R.cells ∧ slots + ms ≤ R.slots) :
    va_Run p l e R s m args below meth c H locs cells slots mc ms g rest (Qc As.toArray) (free) := by
  obtain ⟨⟨hrc, hrs, hfr, hlo, hws, hcw⟩, hcode, hini, hy, hlen, hl, hstt⟩ := cw
  have hK : Back l R p e below s args y 3 8 (PreOf R mc ms Pc) (PostOf Qc mc ms free) := va_backW (hh := hh) (bytes := bytes) (maxL := maxL) (ret := ret) hM hp.1 hrc hrs hfr hlo hws hcw (fun a' U hW => word_at hW (Or.inl (by first | rfl | simp [Cond.onTables, Cond.keeps, Cond.steady])) hini)
  obtain ⟨hx, hb, hml, ho, -⟩ := S
  intro T hT X
  obtain ⟨v, vm₁, ⟨U', l2, c2, s2⟩, hW₁, X', ⟨g', mk, t, L, e1, e2, hq, h1, hL, h2, h3⟩, st⟩ := vx_callSW X hx (hh := hh) (bytes := bytes) (maxL := maxL) (ret := ret) ho hl hstt hini hcode hy hK hg (hsize.trans hml.symm) (argsL := As) (rest := rest) (fun sig h => hn.trans (hlen sig h)) hstack hW (by rw [hb]; exact hdg)
    (fun vm₁ hW₁ => ⟨hf.1, hf.2, hp.2 (T.setVm vm₁) hT hW₁⟩)
  dsimp only [Pt.U, Pt.locs, Pt.cells, Pt.slots] at X' e1 e2 h1 h2 h3 st
  subst h1; subst h2; subst h3
  exact ⟨v, (T.setVm vm₁).calling g' mk As.toArray, t, U', L, hT, X', hL, e1, e2, hq, st⟩
/-- not caught here, past rows that name other classes: it goes on to the caller -/
theorem vx_outP {p : Program} {l : Launch} {e : Env} {R : Room} {s : State} {m : MethodId} {args : Array Value} {below : List Frame} {meth : Method} {c : Code} {H : Heap} {locs : List Loc} {cells slots : Nat} {free : Addr → Prop} {ls : Array Slot} {rest : List Value} {Qc : Array Value → State → Outcome → State → Prop} {XC : String → State → State → Prop}
    {pc : Nat} {own E : String} {ce : Cell} {q : Addr} {mc ms : Nat} (hown : s.vm.findClass own = some m.cls) (hlocks : meth.locks = false)
    (hpass : ∀ z ∈ c.exceptionTable.toList, covers z pc = false ∨ (z.catchType ≠ 0 ∧ ∃ nm : String, (Cond.classLink own z.catchType nm).before args s = true ∧ va_Nc E nm s)) (hcell : H[q]? = some ce) (hv : ce.vm = .none) (hcl : s.vm.findClass E = some ce.cls)
    (hx : ∀ t : State, t.heap = H → s.vm.Alike t.vm → XC E s t) (hf : ∀ z ∈ locs, free z.base) (hc : cells ≤ mc) (hs : slots ≤ ms) :
    vx_W p l e R s m args below meth c H locs cells slots (vx_MQ below Qc XC args s mc ms free) (F0 m pc ls rest) q := by
  intro T hT X
  have hpl : e.platform.magicAccessors = ({} : Platform).magicAccessors := by rw [X.admits.platform]
  obtain ⟨vm', hW', X', st⟩ := X.outThrough hlocks q (g := F0 m pc ls rest) rfl rfl rfl (cell := ce) (by rw [hT]; exact hcell) (by rw [hv]; rfl)
    (by obtain ⟨k9, h9, -⟩ := Vm.findClass_spec hcl; exact ⟨k9, h9⟩) (fun z hz => by
      rcases hpass z hz with h | ⟨hz0, nm, hl1, hn1⟩
      · exact Or.inl h
      · obtain ⟨c6, hc6, hcl6⟩ := Cond.classLink_spec hown hl1 e.platform hpl
        obtain ⟨a8, b8, h1, h2, h3⟩ := hn1
        cases Option.some.inj (h1.symm.trans hcl)
        cases Option.some.inj (h2.symm.trans hc6)
        exact Or.inr ⟨hz0, _, hcl6, h3⟩)
  obtain ⟨g₀, hfr⟩ := X'.frames_eq
  have hcell9 : ((T.setVm vm').setFrames (.throwing q :: below)).heap[q]? = some ce := by
    show T.heap[q]? = some ce
    rw [hT]; exact hcell
  have hend : Ended ((T.setVm vm').setFrames (.throwing q :: below)) below (.threw q) := State.frames_setFrames _ (State.cur_lt_of_frames hfr)
  refine ⟨(T.setVm vm').setFrames (.throwing q :: below), ?_, .threw q, X'.here.running, hend, Or.inr ⟨q, rfl, E, ce, locs, hx _ hT (X'.ends _).1.alike, hcell9, hv, hcl, (X'.ends _).1, (X'.ends _).2.mono hc hs, hf⟩⟩
  rw [X.pushThrowing_eq]
  exact st
/-- a thing of a world lies in the heap -/
theorem vx_lt {D : va_G} {cl : List vw_C} {ws : va_W} {H1 : Heap} (h : va_P D cl ws H1) {k : Nat} {q : Nat × va_E} (hk : ws[k]? = some q) : q.1 < H1.size := (h k q hk).lt
end VXS
/-! ===== END ===== -/
/-! ===== BEGIN methods with a table of their own: called by a name, returning or throwing ===== -/
section VXH
/-! vx_backW, vx_callVX, vx_callSX, vx_callVW, vx_runVW, vx_runVX, vx_runSX, vx_ofWH follow the same proofs as their sisters above (Free/Laws.lean, Shelf42/LK1.lean); vx_outP calls Shelf42/NT130.lean (outThrough). -/
section
variable {l : Launch} {R : Room} {p : Program} {e : Env} {below : List Frame} {s : State} {sargs : Array Value} {y : MethodName} {len W9 : Nat}
theorem vx_backW {ws : List Cond} {rm : Room} {Pc : Array Value → State → Prop} {Qc : Array Value → State → Outcome → State → Prop} {XC : String → State → State → Prop} {mc ms : Nat} {free : Addr → Prop} {bytes : ByteArray} {maxL : Nat} {ret : Option FieldType} {hh : List (Nat × Nat × Nat × Nat)}
    (hM : vx_Met l y ws rm Pc Qc XC mc ms free) (hblind : FrameBlind Pc) (hrc : rm.cells = mc) (hrs : rm.slots = ms)
    (hframes : rm.frames + 1 ≤ R.frames) (hlocals : W9 + (maxL + 11) + rm.locals ≤ R.locals)
    (hws : ∀ w ∈ ws, ∀ a' U, s.WarmedH U.vm → w.before a' U = true) (hcode : Cond.codeWith y bytes maxL ret hh ∈ ws) (hinit : ∀ a' U, s.WarmedH U.vm → (Cond.initialized y.cls).before a' U = true) :
    vx_Back l R p e below s sargs y len W9 (PreOf R mc ms Pc) (PostOf Qc mc ms free) (vx_Post XC mc ms free) := by
  intro m meth c A g ig mk a X hg hsize hdg hW hn hp
  have h1 : (headSpec ws rm).pre.before a A.U = true := atoms_intro fun w hw => hws w hw _ _ X.warmed
  have h2 : (Cond.codeWith y bytes maxL ret hh).before a A.U = true := hws _ hcode _ _ X.warmed
  have h3 : (Cond.initialized y.cls).before a A.U = true := hinit _ _ X.warmed
  have h4 : A.cells + (headSpec ws rm).room.cells ≤ R.cells := by rw [show (headSpec ws rm).room.cells = mc from hrc]; exact hp.1
  have h5 : A.slots + (headSpec ws rm).room.slots ≤ R.slots := by rw [show (headSpec ws rm).room.slots = ms from hrs]; exact hp.2.1
  have hPc : Pc a (A.U.calling g mk a) := hblind _ _ _ _ hp.2.2
  obtain ⟨U, Ls, c0, s0⟩ := A
  dsimp only [Pt.U, Pt.locs, Pt.cells, Pt.slots] at h1 h2 h3 h4 h5 X hn hPc ⊢
  obtain ⟨m9, methY, cY, hn9, hmY, hcY, -, hlY, -⟩ := Cond.codeWith_spec h2
  cases Option.some.inj (hn9.symm.trans hn)
  obtain ⟨kY, hkY, -⟩ := className_of_methodNamed hn
  have hinitY : kY.init = .initialized := Cond.initialized_spec (findClass_of_methodNamed hn) hkY h3
  have h : At U g.method c below := by rw [hg]; exact X.here
  have hlocals9 : W9 + (maxL + 11) + (headSpec ws rm).room.locals ≤ R.locals := hlocals
  have happ : (headSpec ws rm).appliesLoose y e.platform (U.calling g mk a) = true :=
    Spec.appliesLoose_calling (g := g) h hdg hn hkY hinitY
      (X.room_calling (g := g) (R' := (headSpec ws rm).room) hsize hmY hcY hframes (by rw [hlY]; omega) h4 h5) h1
  obtain ⟨mid, hmid⟩ := h.above
  have hfr : (U.setTop g).frames = (.java g :: mid) ++ below := by rw [State.frames_setTop' g h.top, hmid]; rfl
  obtain ⟨o, s₂, hsteps, -, hend, hq⟩ := Steps.callFree hM p X.admits X.cas X.clock (acts := []) hfr happ hPc trivial
  have hq' : vx_Q Qc XC mc ms free a (U.calling g mk a) o s₂ := hq
  rw [State.frames_setTop' g h.top] at hend
  obtain ⟨g₀, hg0⟩ := Option.isSome_iff_exists.mp h.top
  obtain ⟨r, hr⟩ := State.topJava?_eq_some.mp hg0
  have hr' : (({ U with heap := s₂.heap, slotsUsed := s₂.slotsUsed } : State).setVm s₂.vm).frames = .java g₀ :: r := hr
  rcases hq' with ⟨hqc, L, hfe, hL⟩ | ⟨q, rfl, E, ce, L, hx, hce, hcv, hcl, hW₂, hsm, hL⟩
  · obtain ⟨⟨v, rfl⟩, hW₂, e2, q2, q3, q4, q5, q6⟩ := id hfe
    have e3 : s₂ = ({ (U.calling g mk a).setFrames s₂.frames with heap := s₂.heap, slotsUsed := s₂.slotsUsed } : State).setVm s₂.vm := by
      have : s₂ = ({ s₂ with vm := (U.calling g mk a).vm } : State).setVm s₂.vm := rfl
      rw [e2] at this
      exact this
    obtain ⟨c₂, i₂, len₂, hc₂, hd₂, hf₂⟩ := hend
    have hW' : U.WarmedH s₂.vm := hW₂
    have hcc : c₂ = c := by
      have h1 : s₂.code? g.method = U.code? g.method := by
        rw [State.code?_eq, State.code?_eq, hW'.alike.method?]
      exact Option.some.inj (hc₂.symm.trans (h1.trans h.code))
    subst hcc
    have hlen : len₂ = len := by rw [hdg] at hd₂; cases hd₂; rfl
    subst hlen
    have hs₂ : s₂ = (({ U with heap := s₂.heap, slotsUsed := s₂.slotsUsed } : State).setVm s₂.vm).setTop { g with pc := g.pc + len₂, stack := v.toList ++ g.stack } := by
      refine e3.trans ?_
      rw [hf₂, State.calling_eq h.top, State.setFrames_setFrames, State.setTop_of_frames _ hr', hr]
      rfl
    have hsame : U.sameButNew ({ U with heap := s₂.heap, slotsUsed := s₂.slotsUsed } : State) L mc ms := by
      refine ⟨?_, q2, q3, q4, q5, q6⟩
      obtain ⟨t, ht, -⟩ := State.frames_cons hr
      show ({ U with heap := s₂.heap, slotsUsed := s₂.slotsUsed } : State) = { U.setFrames U.frames with heap := s₂.heap, slotsUsed := s₂.slotsUsed }
      rw [State.setFrames_self ht]
    subst hg
    refine Or.inl ⟨v, ⟨(({ U with heap := s₂.heap, slotsUsed := s₂.slotsUsed } : State).setVm s₂.vm), Ls ++ L, c0 + mc, s0 + ms⟩,
      ⟨X.admits, X.cas, X.clock, X.frames, X.room, X.hears, X.method, X.code, (X.here.setHeapUsed s₂.heap s₂.slotsUsed).setVm hW'.alike, X.tail, State.WarmedH.trans X.warmed hW', X.limits, X.bytes, X.same.trans (hsame.setVm s.vm)⟩,
      ⟨g, mk, s₂, L, rfl, rfl, hqc, rfl, hL, rfl, rfl⟩, ?_⟩
    show Steps p.tables e below _ ((({ U with heap := s₂.heap, slotsUsed := s₂.slotsUsed } : State).setVm s₂.vm).setTop { g with pc := g.pc + len₂, stack := v.toList ++ g.stack })
    rw [← hs₂]
    exact hsteps
  · obtain ⟨e2, q2, q3, q4, q5, q6⟩ := id hsm
    have e3 : s₂ = ({ (U.calling g mk a).setFrames s₂.frames with heap := s₂.heap, slotsUsed := s₂.slotsUsed } : State).setVm s₂.vm := by
      have : s₂ = ({ s₂ with vm := (U.calling g mk a).vm } : State).setVm s₂.vm := rfl
      rw [e2] at this
      exact this
    have hf₂ : s₂.frames = .throwing q :: .java g :: U.frames.tail := hend
    have hW' : U.WarmedH s₂.vm := hW₂
    have hs₂ : s₂ = ((({ U with heap := s₂.heap, slotsUsed := s₂.slotsUsed } : State).setVm s₂.vm).setTop g).pushFrame (.throwing q) := by
      refine e3.trans ?_
      rw [hf₂, State.calling_eq h.top, State.setFrames_setFrames, State.pushFrame, State.frames_setTop _ hr', State.setTop_of_frames _ hr', State.setFrames_setFrames, hr]
      rfl
    have hsame : U.sameButNew ({ U with heap := s₂.heap, slotsUsed := s₂.slotsUsed } : State) L mc ms := by
      refine ⟨?_, q2, q3, q4, q5, q6⟩
      obtain ⟨t, ht, -⟩ := State.frames_cons hr
      show ({ U with heap := s₂.heap, slotsUsed := s₂.slotsUsed } : State) = { U.setFrames U.frames with heap := s₂.heap, slotsUsed := s₂.slotsUsed }
      rw [State.setFrames_self ht]
    subst hg
    refine Or.inr ⟨q, ⟨(({ U with heap := s₂.heap, slotsUsed := s₂.slotsUsed } : State).setVm s₂.vm), Ls ++ L, c0 + mc, s0 + ms⟩,
      ⟨X.admits, X.cas, X.clock, X.frames, X.room, X.hears, X.method, X.code, (X.here.setHeapUsed s₂.heap s₂.slotsUsed).setVm hW'.alike, X.tail, State.WarmedH.trans X.warmed hW', X.limits, X.bytes, X.same.trans (hsame.setVm s.vm)⟩,
      ⟨g, mk, s₂, L, E, ce, rfl, rfl, hx, hce, hcv, hcl, rfl, hL, rfl, rfl⟩, ?_⟩
    show Steps p.tables e below _ (((({ U with heap := s₂.heap, slotsUsed := s₂.slotsUsed } : State).setVm s₂.vm).setTop g).pushFrame (.throwing q))
    rw [← hs₂]
    exact hsteps
end
variable {p : Program} {l : Launch} {e : Env} {R : Room} {s : State} {m : MethodId} {args : Array Value} {below : List Frame} {meth : Method} {c : Code} {T : State} {H : Heap} {locs : List Loc} {cells slots : Nat}
theorem vx_callVX (X : Stand p l e R s m args below meth c T locs cells slots) (hexec : p.tables.exec = Jvm.exec) {own C : String} {index : Nat} {y : MethodName} {bytes : ByteArray} {maxL : Nat} {ret : Option FieldType} {hh : List (Nat × Nat × Nat × Nat)}
    (hown : s.vm.findClass own = some m.cls) (hlink : (Cond.methodLink own index y).before args s = true) (hinst : (Cond.instanceMethod y).before args s = true) (hsel : (Cond.selects C y y).before args s = true)
    (hcode : (Cond.codeWith y bytes maxL ret hh).before args s = true) (hy : y.cls ≠ "java/lang/invoke/MethodHandle" ∧ y.cls ≠ "java/lang/invoke/VarHandle")
    {W9 : Nat} {Pre : Pt → Array Value → Prop} {Post : Pt → Array Value → Option Value → Pt → Prop} {PostX : Pt → Array Value → Addr → Pt → Prop} (hK : vx_Back l R p e below s args y 3 W9 Pre Post PostX)
    {b : Addr} {cellB : Cell} (hcell : T.heap[b]? = some cellB) (hobj : cellB.vm.isStatics = false) (hcls : s.vm.findClass C = some cellB.cls)
    {g : JFrame} (hg : g.method = m) (hsize : g.locals.size = c.maxLocals) {argsL rest : List Value} (hlen : ∀ sig, parseMethodDescriptor y.desc = some sig → argsL.length = sig.parameters.length)
    (hstack : g.stack = argsL.reverse ++ .ref b :: rest) (hW : 2 * g.monitorRoom + (rest.map fun v => v.category).sum ≤ W9) (hdg : decode c.code g.pc = .ok (.invokevirtual index, 3))
    (hpre : ∀ vm₁, s.WarmedH vm₁ → Pre ⟨T.setVm vm₁, locs, cells, slots⟩ (Value.ref b :: argsL).toArray) :
    (∃ (v : Option Value) (vm₁ : Vm) (B : Pt), s.WarmedH vm₁ ∧ Stand p l e R s m args below meth c B.U B.locs B.cells B.slots ∧ Post ⟨T.setVm vm₁, locs, cells, slots⟩ (Value.ref b :: argsL).toArray v B ∧
      ∀ target, Steps p.tables e below (B.U.setTop { g with pc := g.pc + 3, stack := v.toList ++ rest }) target → Steps p.tables e below (T.setTop g) target) ∨
    (∃ (q : Addr) (vm₁ : Vm) (B : Pt), s.WarmedH vm₁ ∧ Stand p l e R s m args below meth c B.U B.locs B.cells B.slots ∧ PostX ⟨T.setVm vm₁, locs, cells, slots⟩ (Value.ref b :: argsL).toArray q B ∧
      Steps p.tables e below (T.setTop g) ((B.U.setTop { g with stack := rest }).pushFrame (.throwing q))) := by
  obtain ⟨mk, methM, hnamed, hmethM, hstM, habM⟩ := Cond.instanceMethod_spec hinst
  obtain ⟨m8, methM', cM, hn8, hmethM', -, -, -, -, -, -, hsigM⟩ := Cond.codeWith_spec hcode
  cases Option.some.inj (hn8.symm.trans hnamed)
  cases hmethM.symm.trans hmethM'
  obtain ⟨c2, r2, m2, q1, q2, q3, q4, kP, hkP, hkPi⟩ := Cond.selects_spec hsel
  cases hcls.symm.trans q1
  cases (State.methodFound?_of_named hnamed hy).symm.trans q2
  cases hnamed.symm.trans q3
  have hselP : selectMethod e.platform s.vm cellB.cls mk = .method mk := by rw [Launch.admits_selectMethod X.admits]; exact q4
  obtain ⟨vm₁, X₁, hstep₁⟩ := X.invokevirtual hexec hown hlink hnamed hmethM hstM hkP hkPi hy (a := b) (cell := cellB) hcell
    (fun z h => by rw [h] at hobj; cases hobj) hselP hmethM habM hkP hkPi (g := g) hg (argsL := argsL) (rest := rest) (hlen _ hsigM) hstack hdg
  rcases hK m meth c ⟨T.setVm vm₁, locs, cells, slots⟩ { g with stack := rest } (.invokevirtual index) mk (Value.ref b :: argsL).toArray X₁ hg hsize hdg hW (X₁.named hnamed) (hpre vm₁ X₁.warmed) with ⟨v, B, X', hpost, hsteps⟩ | ⟨q, B, X', hpost, hsteps⟩
  · exact Or.inl ⟨v, vm₁, B, X₁.warmed, X', hpost, fun target h => hstep₁ _ fun acts => by rw [doInvoke_state]; exact hsteps.trans h⟩
  · exact Or.inr ⟨q, vm₁, B, X₁.warmed, X', hpost, hstep₁ _ fun acts => by rw [doInvoke_state]; exact hsteps⟩
theorem vx_callSX (X : Stand p l e R s m args below meth c T locs cells slots) (hexec : p.tables.exec = Jvm.exec) {own : String} {index : Nat} {y : MethodName} {bytes : ByteArray} {maxL : Nat} {ret : Option FieldType} {hh : List (Nat × Nat × Nat × Nat)}
    (hown : s.vm.findClass own = some m.cls) (hlink : (Cond.methodLink own index y).before args s = true) (hstat : (Cond.static y).before args s = true) (hinit : (Cond.initialized y.cls).before args s = true)
    (hcode : (Cond.codeWith y bytes maxL ret hh).before args s = true) (hy : y.cls ≠ "java/lang/invoke/MethodHandle" ∧ y.cls ≠ "java/lang/invoke/VarHandle")
    {W9 : Nat} {Pre : Pt → Array Value → Prop} {Post : Pt → Array Value → Option Value → Pt → Prop} {PostX : Pt → Array Value → Addr → Pt → Prop} (hK : vx_Back l R p e below s args y 3 W9 Pre Post PostX)
    {g : JFrame} (hg : g.method = m) (hsize : g.locals.size = c.maxLocals) {argsL rest : List Value} (hlen : ∀ sig, parseMethodDescriptor y.desc = some sig → argsL.length = sig.parameters.length)
    (hstack : g.stack = argsL.reverse ++ rest) (hW : 2 * g.monitorRoom + (rest.map fun v => v.category).sum ≤ W9) (hdg : decode c.code g.pc = .ok (.invokestatic index, 3))
    (hpre : ∀ vm₁, s.WarmedH vm₁ → Pre ⟨T.setVm vm₁, locs, cells, slots⟩ argsL.toArray) :
    (∃ (v : Option Value) (vm₁ : Vm) (B : Pt), s.WarmedH vm₁ ∧ Stand p l e R s m args below meth c B.U B.locs B.cells B.slots ∧ Post ⟨T.setVm vm₁, locs, cells, slots⟩ argsL.toArray v B ∧
      ∀ target, Steps p.tables e below (B.U.setTop { g with pc := g.pc + 3, stack := v.toList ++ rest }) target → Steps p.tables e below (T.setTop g) target) ∨
    (∃ (q : Addr) (vm₁ : Vm) (B : Pt), s.WarmedH vm₁ ∧ Stand p l e R s m args below meth c B.U B.locs B.cells B.slots ∧ PostX ⟨T.setVm vm₁, locs, cells, slots⟩ argsL.toArray q B ∧
      Steps p.tables e below (T.setTop g) ((B.U.setTop { g with stack := rest }).pushFrame (.throwing q))) := by
  obtain ⟨mk, methM, cM, hnamed, hmethM, -, -, -, -, -, -, hsigM⟩ := Cond.codeWith_spec hcode
  have hstatic : methM.isStatic = true := Cond.static_spec hnamed hmethM hstat
  obtain ⟨kP, hkP, -⟩ := className_of_methodNamed hnamed
  have hinitP : kP.init = .initialized := Cond.initialized_spec (findClass_of_methodNamed hnamed) hkP hinit
  obtain ⟨vm₁, X₁, hstep₁⟩ := X.invokestatic hexec hown hlink hnamed hmethM hstatic hkP hinitP hy (g := g) hg (argsL := argsL) (rest := rest) (hlen _ hsigM) hstack hdg
  rcases hK m meth c ⟨T.setVm vm₁, locs, cells, slots⟩ { g with stack := rest } (.invokestatic index) mk argsL.toArray X₁ hg hsize hdg hW (X₁.named hnamed) (hpre vm₁ X₁.warmed) with ⟨v, B, X', hpost, hsteps⟩ | ⟨q, B, X', hpost, hsteps⟩
  · exact Or.inl ⟨v, vm₁, B, X₁.warmed, X', hpost, fun target h => hstep₁ _ fun acts => by rw [doInvoke_state]; exact hsteps.trans h⟩
  · exact Or.inr ⟨q, vm₁, B, X₁.warmed, X', hpost, hstep₁ _ fun acts => by rw [doInvoke_state]; exact hsteps⟩
theorem vx_callVW (X : Stand p l e R s m args below meth c T locs cells slots) (hexec : p.tables.exec = Jvm.exec) {own C : String} {index : Nat} {y : MethodName} {bytes : ByteArray} {maxL : Nat} {ret : Option FieldType} {hh : List (Nat × Nat × Nat × Nat)}
    (hown : s.vm.findClass own = some m.cls) (hlink : (Cond.methodLink own index y).before args s = true) (hinst : (Cond.instanceMethod y).before args s = true) (hsel : (Cond.selects C y y).before args s = true)
    (hcode : (Cond.codeWith y bytes maxL ret hh).before args s = true) (hy : y.cls ≠ "java/lang/invoke/MethodHandle" ∧ y.cls ≠ "java/lang/invoke/VarHandle")
    {W9 : Nat} {Pre : Pt → Array Value → Prop} {Post : Pt → Array Value → Option Value → Pt → Prop} (hK : Back l R p e below s args y 3 W9 Pre Post)
    {b : Addr} {cellB : Cell} (hcell : T.heap[b]? = some cellB) (hobj : cellB.vm.isStatics = false) (hcls : s.vm.findClass C = some cellB.cls)
    {g : JFrame} (hg : g.method = m) (hsize : g.locals.size = c.maxLocals) {argsL rest : List Value} (hlen : ∀ sig, parseMethodDescriptor y.desc = some sig → argsL.length = sig.parameters.length)
    (hstack : g.stack = argsL.reverse ++ .ref b :: rest) (hW : 2 * g.monitorRoom + (rest.map fun v => v.category).sum ≤ W9) (hdg : decode c.code g.pc = .ok (.invokevirtual index, 3))
    (hpre : ∀ vm₁, s.WarmedH vm₁ → Pre ⟨T.setVm vm₁, locs, cells, slots⟩ (Value.ref b :: argsL).toArray) :
    ∃ (v : Option Value) (vm₁ : Vm) (B : Pt), s.WarmedH vm₁ ∧ Stand p l e R s m args below meth c B.U B.locs B.cells B.slots ∧ Post ⟨T.setVm vm₁, locs, cells, slots⟩ (Value.ref b :: argsL).toArray v B ∧
      ∀ target, Steps p.tables e below (B.U.setTop { g with pc := g.pc + 3, stack := v.toList ++ rest }) target → Steps p.tables e below (T.setTop g) target := by
  obtain ⟨mk, methM, hnamed, hmethM, hstM, habM⟩ := Cond.instanceMethod_spec hinst
  obtain ⟨m8, methM', cM, hn8, hmethM', -, -, -, -, -, -, hsigM⟩ := Cond.codeWith_spec hcode
  cases Option.some.inj (hn8.symm.trans hnamed)
  cases hmethM.symm.trans hmethM'
  obtain ⟨c2, r2, m2, q1, q2, q3, q4, kP, hkP, hkPi⟩ := Cond.selects_spec hsel
  cases hcls.symm.trans q1
  cases (State.methodFound?_of_named hnamed hy).symm.trans q2
  cases hnamed.symm.trans q3
  have hselP : selectMethod e.platform s.vm cellB.cls mk = .method mk := by rw [Launch.admits_selectMethod X.admits]; exact q4
  obtain ⟨vm₁, X₁, hstep₁⟩ := X.invokevirtual hexec hown hlink hnamed hmethM hstM hkP hkPi hy (a := b) (cell := cellB) hcell
    (fun z h => by rw [h] at hobj; cases hobj) hselP hmethM habM hkP hkPi (g := g) hg (argsL := argsL) (rest := rest) (hlen _ hsigM) hstack hdg
  obtain ⟨v, B, X', hpost, hsteps⟩ := hK m meth c ⟨T.setVm vm₁, locs, cells, slots⟩ { g with stack := rest } (.invokevirtual index) mk (Value.ref b :: argsL).toArray X₁ hg hsize hdg hW (X₁.named hnamed) (hpre vm₁ X₁.warmed)
  exact ⟨v, vm₁, B, X₁.warmed, X', hpost, fun target h => hstep₁ _ fun acts => by rw [doInvoke_state]; exact hsteps.trans h⟩
abbrev vx_CVW (R : Room) (s : State) (args : Array Value) (own C : String) (index : Nat) (y : MethodName) (bytes : ByteArray) (maxL : Nat) (ret : Option FieldType) (hh : List (Nat × Nat × Nat × Nat)) (ws : List Cond) (rm : Room) (mc ms n : Nat) : Prop :=
  (rm.cells = mc ∧ rm.slots = ms ∧ rm.frames + 1 ≤ R.frames ∧ 8 + (maxL + 11) + rm.locals ≤ R.locals ∧ (∀ w ∈ ws, ∀ (a' : Array Value) (U : State), s.WarmedH U.vm → w.before a' U = true) ∧ Cond.codeWith y bytes maxL ret hh ∈ ws) ∧
  (Cond.codeWith y bytes maxL ret hh).before args s = true ∧ (Cond.initialized y.cls).before args s = true ∧ (y.cls ≠ "java/lang/invoke/MethodHandle" ∧ y.cls ≠ "java/lang/invoke/VarHandle") ∧
  (∀ sig, parseMethodDescriptor y.desc = some sig → n = sig.parameters.length) ∧ (Cond.methodLink own index y).before args s = true ∧ (Cond.instanceMethod y).before args s = true ∧ (Cond.selects C y y).before args s = true
theorem vx_cwVW {own C : String} {index maxL mc ms : Nat} {y : MethodName} {bytes : ByteArray} {ret : Option FieldType} {hh : List (Nat × Nat × Nat × Nat)} {Ts ws ws' : List Cond} {rm : Room} (n : Nat) (ht : ∀ w ∈ Ts, w.before args s = true) (hT : GoodIn Ts (wsV own index C y ws)) (hw : ws = Cond.codeWith y bytes maxL ret hh :: ws') (hrc : rm.cells = mc) (hrs : rm.slots = ms)
    (hd : y.cls = C ∧ y.cls ≠ "java/lang/invoke/MethodHandle" ∧ y.cls ≠ "java/lang/invoke/VarHandle" ∧ (parseMethodDescriptor y.desc).map (fun d => d.parameters.length) = some n) (hR : rm.frames + 1 ≤ R.frames ∧ 8 + (maxL + 11) + rm.locals ≤ R.locals) :
    vx_CVW R s args own C index y bytes maxL ret hh ws rm mc ms n := by
  obtain ⟨hC, hd⟩ := hd
  subst hC
  have ok : ∀ w ∈ wsV own index y.cls y ws, w.before args s = true := fun w h => ht w (hT w h).1
  have hG : GoodIn Ts ws := fun w h => hT w (by unfold wsV; exact List.mem_append_right _ h)
  have hc : Cond.codeWith y bytes maxL ret hh ∈ ws := by rw [hw]; exact List.mem_cons_self
  refine ⟨⟨hrc, hrs, hR.1, hR.2, pay_in ht hG, hc⟩, ht _ (hG _ hc).1, ok _ (by simp [wsV]), ⟨hd.1, hd.2.1⟩, fun sig h => ?_, ok _ (by simp [wsV]), ok _ (by simp [wsV]), ok _ (by simp [wsV])⟩
  have h2 := hd.2.2
  rw [h] at h2
  exact (Option.some.inj h2).symm
theorem vx_runVW {y : MethodName} {bytes cc : ByteArray} {maxL nL mc ms n index : Nat} {ret : Option FieldType} {hh : List (Nat × Nat × Nat × Nat)} {ws : List Cond} {rm : Room} {Pc : Array Value → State → Prop} {Qc : Array Value → State → Outcome → State → Prop} {free : Addr → Prop} {Ts : List Cond} {own C : String} {b : Addr} {As rest : List Value} {g : JFrame}
    (S : CallFix p m c cc nL s args Ts own) (hM : Met l y ws rm Pc Qc mc ms free) (cw : vx_CVW R s args own C index y bytes maxL ret hh ws rm mc ms n) (hp : PreV s H C b Pc As)
    (hg : g.method = m) (hn : As.length = n) (hsize : g.locals.size = nL) (hstack : g.stack = As.reverse ++ .ref b :: rest) (hW : 2 * g.monitorRoom + (rest.map fun v => v.category).sum ≤ 8) (hdg : decode cc g.pc = .ok (.invokevirtual index, 3)) (hf : cells + mc ≤ R.cells ∧ slots + ms ≤ R.slots) :
    va_Run p l e R s m args below meth c H locs cells slots mc ms g rest (Qc (Value.ref b :: As).toArray) free := by
  obtain ⟨⟨hrc, hrs, hfr, hlo, hws, hcw⟩, hcode, hini, hy, hlen, hl, hin, hse⟩ := cw
  have hK : Back l R p e below s args y 3 8 (PreOf R mc ms Pc) (PostOf Qc mc ms free) := va_backW (hh := hh) (bytes := bytes) (maxL := maxL) (ret := ret) hM hp.1 hrc hrs hfr hlo hws hcw (fun a' U hW => word_at hW (Or.inl (by first | rfl | simp [Cond.onTables, Cond.keeps, Cond.steady])) hini)
  obtain ⟨hx, hb, hml, ho, -⟩ := S
  obtain ⟨-, ⟨cellB, hcB, hoB, hclB⟩, hPc⟩ := hp
  intro T hT X
  obtain ⟨v, vm₁, ⟨U', l2, c2, s2⟩, hW₁, X', ⟨g', mk, t, L, e1, e2, hq, h1, hL, h2, h3⟩, st⟩ := vx_callVW X hx (C := C) (hh := hh) (bytes := bytes) (maxL := maxL) (ret := ret) ho hl hin hse hcode hy hK (by rw [hT]; exact hcB) hoB hclB hg (hsize.trans hml.symm) (argsL := As) (rest := rest) (fun sig h => hn.trans (hlen sig h)) hstack hW (by rw [hb]; exact hdg)
    (fun vm₁ hW₁ => ⟨hf.1, hf.2, hPc (T.setVm vm₁) hT hW₁⟩)
  dsimp only [Pt.U, Pt.locs, Pt.cells, Pt.slots] at X' e1 e2 h1 h2 h3 st
  subst h1; subst h2; subst h3
  exact ⟨v, (T.setVm vm₁).calling g' mk (Value.ref b :: As).toArray, t, U', L, hT, X', hL, e1, e2, hq, st⟩
section
variable {y : MethodName} {bytes cc : ByteArray} {maxL nL mc ms n index : Nat} {ret : Option FieldType} {ws : List Cond} {rm : Room} {Pc : Array Value → State → Prop} {Qc : Array Value → State → Outcome → State → Prop} {XC : String → State → State → Prop} {free : Addr → Prop} {Ts : List Cond} {own C : String} {b : Addr} {As rest : List Value} {g : JFrame}
theorem vx_runVX {hh : List (Nat × Nat × Nat × Nat)} (S : CallFix p m c cc nL s args Ts own) (hM : vx_Met l y ws rm Pc Qc XC mc ms free) (cw : vx_CVW R s args own C index y bytes maxL ret hh ws rm mc ms n) (hp : PreV s H C b Pc As)
    (hg : g.method = m) (hn : As.length = n) (hsize : g.locals.size = nL) (hstack : g.stack = As.reverse ++ .ref b :: rest) (hW : 2 * g.monitorRoom + (rest.map fun v => v.category).sum ≤ 8) (hdg : decode cc g.pc = .ok (.invokevirtual index, 3)) (hf : cells + mc ≤ R.cells ∧ slots + ms ≤ R.slots) :
    vx_Run p l e R s m args below meth c H locs cells slots mc ms g rest (Qc (Value.ref b :: As).toArray) XC free := by
  obtain ⟨⟨hrc, hrs, hfr, hlo, hws, hcw⟩, hcode, hini, hy, hlen, hl, hin, hse⟩ := cw
  have hK : vx_Back l R p e below s args y 3 8 (PreOf R mc ms Pc) (PostOf Qc mc ms free) (vx_Post XC mc ms free) := vx_backW (hh := hh) (bytes := bytes) (maxL := maxL) (ret := ret) hM hp.1 hrc hrs hfr hlo hws hcw (fun a' U hW => word_at hW (Or.inl (by first | rfl | simp [Cond.onTables, Cond.keeps, Cond.steady])) hini)
  obtain ⟨hx, hb, hml, ho, -⟩ := S
  obtain ⟨-, ⟨cellB, hcB, hoB, hclB⟩, hPc⟩ := hp
  intro T hT X
  rcases vx_callVX X hx (C := C) (hh := hh) (bytes := bytes) (maxL := maxL) (ret := ret) ho hl hin hse hcode hy hK (by rw [hT]; exact hcB) hoB hclB hg (hsize.trans hml.symm) (argsL := As) (rest := rest) (fun sig h => hn.trans (hlen sig h)) hstack hW (by rw [hb]; exact hdg)
    (fun vm₁ hW₁ => ⟨hf.1, hf.2, hPc (T.setVm vm₁) hT hW₁⟩) with ⟨v, vm₁, ⟨U', l2, c2, s2⟩, hW₁, X', ⟨g', mk, t, L, e1, e2, hq, h1, hL, h2, h3⟩, st⟩ | ⟨q, vm₁, ⟨U', l2, c2, s2⟩, hW₁, X', ⟨g', mk, t, L, E, ce, e1, e2, hq, hce, hcv, hcl, h1, hL, h2, h3⟩, st⟩
  · dsimp only [Pt.U, Pt.locs, Pt.cells, Pt.slots] at X' e1 e2 h1 h2 h3 st
    subst h1; subst h2; subst h3
    exact Or.inl ⟨v, (T.setVm vm₁).calling g' mk (Value.ref b :: As).toArray, t, U', L, hT, X', hL, e1, e2, hq, st⟩
  · dsimp only [Pt.U, Pt.locs, Pt.cells, Pt.slots] at X' e1 e2 h1 h2 h3 st hcl
    subst h1; subst h2; subst h3
    exact Or.inr ⟨q, (T.setVm vm₁).calling g' mk (Value.ref b :: As).toArray, t, U', L, E, ce, hT, X', hL, e1, e2, hq, hce, hcv, vx_cls hW₁ hcl, st⟩
theorem vx_runSX {hh : List (Nat × Nat × Nat × Nat)} (S : CallFix p m c cc nL s args Ts own) (hM : vx_Met l y ws rm Pc Qc XC mc ms free) (cw : vx_CSW R s args own index y bytes maxL ret hh ws rm mc ms n) (hp : PreS s H Pc As)
    (hg : g.method = m) (hn : As.length = n) (hsize : g.locals.size = nL) (hstack : g.stack = As.reverse ++ rest) (hW : 2 * g.monitorRoom + (rest.map fun v => v.category).sum ≤ 8) (hdg : decode cc g.pc = .ok (.invokestatic index, 3)) (hf : cells + mc ≤ R.cells ∧ slots + ms ≤ R.slots) :
    vx_Run p l e R s m args below meth c H locs cells slots mc ms g rest (Qc As.toArray) XC free := by
  obtain ⟨⟨hrc, hrs, hfr, hlo, hws, hcw⟩, hcode, hini, hy, hlen, hl, hstt⟩ := cw
  have hK : vx_Back l R p e below s args y 3 8 (PreOf R mc ms Pc) (PostOf Qc mc ms free) (vx_Post XC mc ms free) := vx_backW (hh := hh) (bytes := bytes) (maxL := maxL) (ret := ret) hM hp.1 hrc hrs hfr hlo hws hcw (fun a' U hW => word_at hW (Or.inl (by first | rfl | simp [Cond.onTables, Cond.keeps, Cond.steady])) hini)
  obtain ⟨hx, hb, hml, ho, -⟩ := S
  intro T hT X
  rcases vx_callSX X hx (hh := hh) (bytes := bytes) (maxL := maxL) (ret := ret) ho hl hstt hini hcode hy hK hg (hsize.trans hml.symm) (argsL := As) (rest := rest) (fun sig h => hn.trans (hlen sig h)) hstack hW (by rw [hb]; exact hdg)
    (fun vm₁ hW₁ => ⟨hf.1, hf.2, hp.2 (T.setVm vm₁) hT hW₁⟩) with ⟨v, vm₁, ⟨U', l2, c2, s2⟩, hW₁, X', ⟨g', mk, t, L, e1, e2, hq, h1, hL, h2, h3⟩, st⟩ | ⟨q, vm₁, ⟨U', l2, c2, s2⟩, hW₁, X', ⟨g', mk, t, L, E, ce, e1, e2, hq, hce, hcv, hcl, h1, hL, h2, h3⟩, st⟩
  · dsimp only [Pt.U, Pt.locs, Pt.cells, Pt.slots] at X' e1 e2 h1 h2 h3 st
    subst h1; subst h2; subst h3
    exact Or.inl ⟨v, (T.setVm vm₁).calling g' mk As.toArray, t, U', L, hT, X', hL, e1, e2, hq, st⟩
  · dsimp only [Pt.U, Pt.locs, Pt.cells, Pt.slots] at X' e1 e2 h1 h2 h3 st hcl
    subst h1; subst h2; subst h3
    exact Or.inr ⟨q, (T.setVm vm₁).calling g' mk As.toArray, t, U', L, E, ce, hT, X', hL, e1, e2, hq, hce, hcv, vx_cls hW₁ hcl, st⟩
end
end VXH
theorem vx_ofWH {l : Launch} {y : MethodName} {ws ws' : List Cond} {rm : Room} {Pc : Array Value → State → Prop} {Qc : Array Value → State → Outcome → State → Prop} {XC : String → State → State → Prop} {mc ms : Nat} {free : Addr → Prop} {cc : ByteArray} {maxL : Nat} {ret : Option FieldType} {hh : List (Nat × Nat × Nat × Nat)}
    (hy : plainName y.cls = true) (hw : ws = Cond.codeWith y cc maxL ret hh :: ws')
    (body : ∀ p e s m args below meth c s₁, BodyLoose p l y (headSpec ws rm) cc maxL ret e s m args below meth c s₁ → c.maxLocals = maxL → Pc args s →
      W p l e (headSpec ws rm).room s m args below meth c s.heap [] 0 0 (vx_MQ below Qc XC args s mc ms free) (entryFrame m args maxL)) : vx_Met l y ws rm Pc Qc XC mc ms free := by
  refine MetFree.of_bodyS (code := cc) (maxLocals := maxL) (ret := ret) hy ?_ ?_
  · intro args s m h hn
    obtain ⟨m9, meth, c, hn9, h1, h2, h3, h4, -, h5, h6, -⟩ := Cond.codeWith_spec (atoms_spec (ws := ws) h _ (by rw [hw]; exact List.mem_cons_self))
    cases hn.symm.trans hn9
    exact ⟨meth, c, h1, h2, h3, h4, h5, h6⟩
  · intro p e s m args below meth c s₁ B hml hP _
    have hh0 : s₁.heap = s.heap := by rw [B.state]; rfl
    obtain ⟨t, a1, o, b1, b2, b3⟩ := body p e s m args below meth c s₁ B hml hP s₁ hh0 (Stand.of_body B)
    exact ⟨t, o, a1, b1, b2, b3⟩
/-! ===== END ===== -/
end
section
def RX0 : String := "SkyLoom$Angles"
def TX0 : u_T := fun k => match k with
  | _ => ("", "", "", false)
def tyX0 : Nat → FieldType := fun k => match k with
  | _ => .int
abbrev wsX00 : List Cond := u_ws RX0 TX0 0
theorem nmX0 : ∀ a, a < 0 → ∀ b, b < 0 → a ≠ b → (TX0 a).2.1 ≠ (TX0 b).2.1 := by decide +kernel
theorem tyX0_ok : ∀ k, k < 0 → parseFieldDescriptor (TX0 k).2.2.1 = some (tyX0 k) := by decide +kernel
abbrev cX0_sine : ByteArray := prog_2_method_2_code
def yX0_sine : MethodName := ⟨RX0, "sine", "(I)I"⟩
abbrev cX0_cosine : ByteArray := prog_2_method_3_code
def yX0_cosine : MethodName := ⟨RX0, "cosine", "(I)I"⟩
def RX1 : String := "SkyLoom$Ballot"
def TX1 : u_T := fun k => match k with
  | 0 => ("SkyLoom$Ballot", "choice", "[I", true)
  | 1 => ("SkyLoom$Ballot", "tally", "[I", true)
  | _ => ("SkyLoom$Ballot", "given", "[I", true)
def tyX1 : Nat → FieldType := fun k => match k with
  | 0 => .array .int
  | 1 => .array .int
  | _ => .array .int
abbrev wsX10 : List Cond := u_ws RX1 TX1 3
theorem nmX1 : ∀ a, a < 3 → ∀ b, b < 3 → a ≠ b → (TX1 a).2.1 ≠ (TX1 b).2.1 := by decide +kernel
theorem tyX1_ok : ∀ k, k < 3 → parseFieldDescriptor (TX1 k).2.2.1 = some (tyX1 k) := by decide +kernel
abbrev cX1_init : ByteArray := prog_3_method_1_code
def yX1_init : MethodName := ⟨RX1, "<init>", "()V"⟩
abbrev cX1_replace : ByteArray := prog_3_method_2_code
def yX1_replace : MethodName := ⟨RX1, "replace", "(III)I"⟩
abbrev cX1_count : ByteArray := prog_3_method_3_code
def yX1_count : MethodName := ⟨RX1, "count", "(III)V"⟩
abbrev cX1_giveNames : ByteArray := prog_3_method_4_code
def yX1_giveNames : MethodName := ⟨RX1, "giveNames", "()V"⟩
abbrev cX1_giveName : ByteArray := prog_3_method_5_code
def yX1_giveName : MethodName := ⟨RX1, "giveName", "(III)I"⟩
def RX2 : String := "SkyLoom$Chart"
def TX2 : u_T := fun k => match k with
  | 0 => ("SkyLoom$Chart", "starCount", "I", false)
  | 1 => ("SkyLoom$Chart", "across", "[I", true)
  | _ => ("SkyLoom$Chart", "up", "[I", true)
def tyX2 : Nat → FieldType := fun k => match k with
  | 0 => .int
  | 1 => .array .int
  | _ => .array .int
abbrev wsX20 : List Cond := u_ws RX2 TX2 3
theorem nmX2 : ∀ a, a < 3 → ∀ b, b < 3 → a ≠ b → (TX2 a).2.1 ≠ (TX2 b).2.1 := by decide +kernel
theorem tyX2_ok : ∀ k, k < 3 → parseFieldDescriptor (TX2 k).2.2.1 = some (tyX2 k) := by decide +kernel
abbrev cX2_init : ByteArray := prog_4_method_1_code
def yX2_init : MethodName := ⟨RX2, "<init>", "()V"⟩
abbrev cX2_append : ByteArray := prog_4_method_2_code
def yX2_append : MethodName := ⟨RX2, "append", "(II)I"⟩
abbrev cX2_move : ByteArray := prog_4_method_3_code
def yX2_move : MethodName := ⟨RX2, "move", "(III)V"⟩
abbrev cX2_heightAt : ByteArray := prog_4_method_4_code
def yX2_heightAt : MethodName := ⟨RX2, "heightAt", "(III)I"⟩
abbrev cX2_meet : ByteArray := prog_4_method_5_code
def yX2_meet : MethodName := ⟨RX2, "meet", "(IIII)Z"⟩
abbrev cX2_spansOverlap : ByteArray := prog_4_method_6_code
def yX2_spansOverlap : MethodName := ⟨RX2, "spansOverlap", "(IIII)Z"⟩
abbrev cX2_straddles : ByteArray := prog_4_method_7_code
def yX2_straddles : MethodName := ⟨RX2, "straddles", "(IIII)Z"⟩
abbrev cX2_sideOf : ByteArray := prog_4_method_8_code
def yX2_sideOf : MethodName := ⟨RX2, "sideOf", "(III)I"⟩
def RX3 : String := "SkyLoom$History"
def TX3 : u_T := fun k => match k with
  | 0 => ("SkyLoom$History", "next", "I", false)
  | 1 => ("SkyLoom$History", "kept", "I", false)
  | 2 => ("SkyLoom$History", "kind", "[I", true)
  | 3 => ("SkyLoom$History", "subject", "[I", true)
  | 4 => ("SkyLoom$History", "line", "[I", true)
  | 5 => ("SkyLoom$History", "first", "[I", true)
  | _ => ("SkyLoom$History", "second", "[I", true)
def tyX3 : Nat → FieldType := fun k => match k with
  | 0 => .int
  | 1 => .int
  | 2 => .array .int
  | 3 => .array .int
  | 4 => .array .int
  | 5 => .array .int
  | _ => .array .int
abbrev wsX30 : List Cond := u_ws RX3 TX3 7
theorem nmX3 : ∀ a, a < 7 → ∀ b, b < 7 → a ≠ b → (TX3 a).2.1 ≠ (TX3 b).2.1 := by decide +kernel
theorem tyX3_ok : ∀ k, k < 7 → parseFieldDescriptor (TX3 k).2.2.1 = some (tyX3 k) := by decide +kernel
abbrev cX3_init : ByteArray := prog_5_method_1_code
def yX3_init : MethodName := ⟨RX3, "<init>", "()V"⟩
abbrev cX3_keep : ByteArray := prog_5_method_2_code
def yX3_keep : MethodName := ⟨RX3, "keep", "(IIIII)V"⟩
abbrev cX3_stepBack : ByteArray := prog_5_method_3_code
def yX3_stepBack : MethodName := ⟨RX3, "stepBack", "()V"⟩
def RX4 : String := "SkyLoom$Programme"
def TX4 : u_T := fun k => match k with
  | 0 => ("SkyLoom$Programme", "showCount", "I", false)
  | 1 => ("SkyLoom$Programme", "figure", "[I", true)
  | 2 => ("SkyLoom$Programme", "name", "[I", true)
  | 3 => ("SkyLoom$Programme", "latitude", "[I", true)
  | _ => ("SkyLoom$Programme", "skyTurn", "[I", true)
def tyX4 : Nat → FieldType := fun k => match k with
  | 0 => .int
  | 1 => .array .int
  | 2 => .array .int
  | 3 => .array .int
  | _ => .array .int
abbrev wsX40 : List Cond := u_ws RX4 TX4 5
theorem nmX4 : ∀ a, a < 5 → ∀ b, b < 5 → a ≠ b → (TX4 a).2.1 ≠ (TX4 b).2.1 := by decide +kernel
theorem tyX4_ok : ∀ k, k < 5 → parseFieldDescriptor (TX4 k).2.2.1 = some (tyX4 k) := by decide +kernel
abbrev cX4_init : ByteArray := prog_6_method_1_code
def yX4_init : MethodName := ⟨RX4, "<init>", "()V"⟩
abbrev cX4_append : ByteArray := prog_6_method_2_code
def yX4_append : MethodName := ⟨RX4, "append", "(IIII)I"⟩
def RX5 : String := "SkyLoom$Web"
def TX5 : u_T := fun k => match k with
  | 0 => ("SkyLoom$Web", "figureCount", "I", false)
  | 1 => ("SkyLoom$Web", "lineCount", "[I", true)
  | 2 => ("SkyLoom$Web", "ends", "[I", true)
  | _ => ("SkyLoom$Web", "otherEnds", "[I", true)
def tyX5 : Nat → FieldType := fun k => match k with
  | 0 => .int
  | 1 => .array .int
  | 2 => .array .int
  | _ => .array .int
abbrev wsX50 : List Cond := u_ws RX5 TX5 4
theorem nmX5 : ∀ a, a < 4 → ∀ b, b < 4 → a ≠ b → (TX5 a).2.1 ≠ (TX5 b).2.1 := by decide +kernel
theorem tyX5_ok : ∀ k, k < 4 → parseFieldDescriptor (TX5 k).2.2.1 = some (tyX5 k) := by decide +kernel
abbrev cX5_init : ByteArray := prog_7_method_1_code
def yX5_init : MethodName := ⟨RX5, "<init>", "()V"⟩
abbrev cX5_place : ByteArray := prog_7_method_2_code
def yX5_place : MethodName := ⟨RX5, "place", "(II)I"⟩
abbrev cX5_appendFigure : ByteArray := prog_7_method_3_code
def yX5_appendFigure : MethodName := ⟨RX5, "appendFigure", "()I"⟩
abbrev cX5_joins : ByteArray := prog_7_method_4_code
def yX5_joins : MethodName := ⟨RX5, "joins", "(III)Z"⟩
abbrev cX5_ownerOf : ByteArray := prog_7_method_5_code
def yX5_ownerOf : MethodName := ⟨RX5, "ownerOf", "(I)I"⟩
abbrev cX5_isOfAnother : ByteArray := prog_7_method_6_code
def yX5_isOfAnother : MethodName := ⟨RX5, "isOfAnother", "(II)Z"⟩
abbrev cX5_insert : ByteArray := prog_7_method_7_code
def yX5_insert : MethodName := ⟨RX5, "insert", "(IIII)V"⟩
abbrev cX5_remove : ByteArray := prog_7_method_8_code
def yX5_remove : MethodName := ⟨RX5, "remove", "(II)V"⟩
abbrev cX5_hasStar : ByteArray := prog_7_method_9_code
def yX5_hasStar : MethodName := ⟨RX5, "hasStar", "(II)Z"⟩
def RX6 : String := "SkyLoom"
def TX6 : u_T := fun k => match k with
  | 0 => ("SkyLoom", "chart", "LSkyLoom$Chart;", true)
  | 1 => ("SkyLoom", "web", "LSkyLoom$Web;", true)
  | 2 => ("SkyLoom", "ballot", "LSkyLoom$Ballot;", true)
  | 3 => ("SkyLoom", "programme", "LSkyLoom$Programme;", true)
  | _ => ("SkyLoom", "history", "LSkyLoom$History;", true)
def tyX6 : Nat → FieldType := fun k => match k with
  | 0 => .object "SkyLoom$Chart"
  | 1 => .object "SkyLoom$Web"
  | 2 => .object "SkyLoom$Ballot"
  | 3 => .object "SkyLoom$Programme"
  | _ => .object "SkyLoom$History"
abbrev wsX60 : List Cond := u_ws RX6 TX6 5
theorem nmX6 : ∀ a, a < 5 → ∀ b, b < 5 → a ≠ b → (TX6 a).2.1 ≠ (TX6 b).2.1 := by decide +kernel
theorem tyX6_ok : ∀ k, k < 5 → parseFieldDescriptor (TX6 k).2.2.1 = some (tyX6 k) := by decide +kernel
abbrev cX6_init : ByteArray := prog_1_method_1_code
def yX6_init : MethodName := ⟨RX6, "<init>", "()V"⟩
abbrev cX6_addStar : ByteArray := prog_1_method_2_code
def yX6_addStar : MethodName := ⟨RX6, "addStar", "(II)I"⟩
abbrev cX6_correct : ByteArray := prog_1_method_3_code
def yX6_correct : MethodName := ⟨RX6, "correct", "(III)I"⟩
abbrev cX6_addFigure : ByteArray := prog_1_method_4_code
def yX6_addFigure : MethodName := ⟨RX6, "addFigure", "()I"⟩
abbrev cX6_draw : ByteArray := prog_1_method_5_code
def yX6_draw : MethodName := ⟨RX6, "draw", "(III)I"⟩
abbrev cX6_erase : ByteArray := prog_1_method_6_code
def yX6_erase : MethodName := ⟨RX6, "erase", "(II)I"⟩
abbrev cX6_undo : ByteArray := prog_1_method_7_code
def yX6_undo : MethodName := ⟨RX6, "undo", "()I"⟩
abbrev cX6_stars : ByteArray := prog_1_method_8_code
def yX6_stars : MethodName := ⟨RX6, "stars", "()I"⟩
abbrev cX6_figures : ByteArray := prog_1_method_9_code
def yX6_figures : MethodName := ⟨RX6, "figures", "()I"⟩
abbrev cX6_lines : ByteArray := prog_1_method_10_code
def yX6_lines : MethodName := ⟨RX6, "lines", "(I)I"⟩
abbrev cX6_placeOf : ByteArray := prog_1_method_11_code
def yX6_placeOf : MethodName := ⟨RX6, "placeOf", "(I)I"⟩
abbrev cX6_figureOf : ByteArray := prog_1_method_12_code
def yX6_figureOf : MethodName := ⟨RX6, "figureOf", "(I)I"⟩
abbrev cX6_crossings : ByteArray := prog_1_method_13_code
def yX6_crossings : MethodName := ⟨RX6, "crossings", "(II)I"⟩
abbrev cX6_vote : ByteArray := prog_1_method_14_code
def yX6_vote : MethodName := ⟨RX6, "vote", "(III)I"⟩
abbrev cX6_votes : ByteArray := prog_1_method_15_code
def yX6_votes : MethodName := ⟨RX6, "votes", "(II)I"⟩
abbrev cX6_nameOf : ByteArray := prog_1_method_16_code
def yX6_nameOf : MethodName := ⟨RX6, "nameOf", "(I)I"⟩
abbrev cX6_height : ByteArray := prog_1_method_17_code
def yX6_height : MethodName := ⟨RX6, "height", "(IIII)I"⟩
abbrev cX6_isUp : ByteArray := prog_1_method_18_code
def yX6_isUp : MethodName := ⟨RX6, "isUp", "(IIII)Z"⟩
abbrev cX6_hours : ByteArray := prog_1_method_19_code
def yX6_hours : MethodName := ⟨RX6, "hours", "(III)I"⟩
abbrev cX6_hoursByStars : ByteArray := prog_1_method_20_code
def yX6_hoursByStars : MethodName := ⟨RX6, "hoursByStars", "(III)I"⟩
abbrev cX6_bestHour : ByteArray := prog_1_method_21_code
def yX6_bestHour : MethodName := ⟨RX6, "bestHour", "(III)I"⟩
abbrev cX6_plan : ByteArray := prog_1_method_23_code
def yX6_plan : MethodName := ⟨RX6, "plan", "(IIII)I"⟩
abbrev cX6_isWrong : ByteArray := prog_1_method_24_code
def yX6_isWrong : MethodName := ⟨RX6, "isWrong", "(I)Z"⟩
abbrev cX6_wrong : ByteArray := prog_1_method_25_code
def yX6_wrong : MethodName := ⟨RX6, "wrong", "()I"⟩
abbrev cX6_needStar : ByteArray := prog_1_method_26_code
def yX6_needStar : MethodName := ⟨RX6, "needStar", "(I)V"⟩
abbrev cX6_needFigure : ByteArray := prog_1_method_27_code
def yX6_needFigure : MethodName := ⟨RX6, "needFigure", "(I)V"⟩
abbrev cX6_needPlace : ByteArray := prog_1_method_28_code
def yX6_needPlace : MethodName := ⟨RX6, "needPlace", "(II)V"⟩
abbrev cX6_needName : ByteArray := prog_1_method_29_code
def yX6_needName : MethodName := ⟨RX6, "needName", "(I)V"⟩
abbrev cX6_needLatitude : ByteArray := prog_1_method_30_code
def yX6_needLatitude : MethodName := ⟨RX6, "needLatitude", "(I)V"⟩
abbrev cX6_needDay : ByteArray := prog_1_method_31_code
def yX6_needDay : MethodName := ⟨RX6, "needDay", "(I)V"⟩
abbrev cX6_needHour : ByteArray := prog_1_method_32_code
def yX6_needHour : MethodName := ⟨RX6, "needHour", "(I)V"⟩
abbrev cX6_takeBack : ByteArray := prog_1_method_33_code
def yX6_takeBack : MethodName := ⟨RX6, "takeBack", "(I)V"⟩
abbrev cX6_linesCross : ByteArray := prog_1_method_34_code
def yX6_linesCross : MethodName := ⟨RX6, "linesCross", "(II)Z"⟩
abbrev cX6_skyTurn : ByteArray := prog_1_method_35_code
def yX6_skyTurn : MethodName := ⟨RX6, "skyTurn", "(II)I"⟩
abbrev cX6_figureIsUp : ByteArray := prog_1_method_36_code
def yX6_figureIsUp : MethodName := ⟨RX6, "figureIsUp", "(III)Z"⟩
abbrev cX6_lowestHeight : ByteArray := prog_1_method_37_code
def yX6_lowestHeight : MethodName := ⟨RX6, "lowestHeight", "(III)I"⟩
abbrev cX6_hoursOfStar : ByteArray := prog_1_method_38_code
def yX6_hoursOfStar : MethodName := ⟨RX6, "hoursOfStar", "(III)I"⟩
abbrev cX6_showIsWrong : ByteArray := prog_1_method_39_code
def yX6_showIsWrong : MethodName := ⟨RX6, "showIsWrong", "(I)Z"⟩
abbrev cX6_countWrongShows : ByteArray := prog_1_method_40_code
def yX6_countWrongShows : MethodName := ⟨RX6, "countWrongShows", "()I"⟩
def RX7 : String := "SkyLoomModel"
def TX7 : u_T := fun k => match k with
  | _ => ("", "", "", false)
def tyX7 : Nat → FieldType := fun k => match k with
  | _ => .int
abbrev wsX70 : List Cond := u_ws RX7 TX7 0
theorem nmX7 : ∀ a, a < 0 → ∀ b, b < 0 → a ≠ b → (TX7 a).2.1 ≠ (TX7 b).2.1 := by decide +kernel
theorem tyX7_ok : ∀ k, k < 0 → parseFieldDescriptor (TX7 k).2.2.1 = some (tyX7 k) := by decide +kernel
def RJx145de : String := "java/io/Serializable"
def TJx145de : u_T := fun k => match k with
  | _ => ("", "", "", false)
def tyJx145de : Nat → FieldType := fun k => match k with
  | _ => .int
abbrev wsJx145de0 : List Cond := u_ws RJx145de TJx145de 0
theorem nmJx145de : ∀ a, a < 0 → ∀ b, b < 0 → a ≠ b → (TJx145de a).2.1 ≠ (TJx145de b).2.1 := by decide +kernel
theorem tyJx145de_ok : ∀ k, k < 0 → parseFieldDescriptor (TJx145de k).2.2.1 = some (tyJx145de k) := by decide +kernel
def RJ6 : String := "java/lang/Integer"
def TJ6 : u_T := fun k => match k with
  | _ => ("", "", "", false)
def tyJ6 : Nat → FieldType := fun k => match k with
  | _ => .int
abbrev wsJ60 : List Cond := u_ws RJ6 TJ6 0
theorem nmJ6 : ∀ a, a < 0 → ∀ b, b < 0 → a ≠ b → (TJ6 a).2.1 ≠ (TJ6 b).2.1 := by decide +kernel
theorem tyJ6_ok : ∀ k, k < 0 → parseFieldDescriptor (TJ6 k).2.2.1 = some (tyJ6 k) := by decide +kernel
abbrev cJ6_compare_7cf53 : ByteArray := prog_14_method_40_code
def yJ6_compare_7cf53 : MethodName := ⟨RJ6, "compare", "(II)I"⟩
def RJ9 : String := "java/lang/Math"
def TJ9 : u_T := fun k => match k with
  | _ => ("", "", "", false)
def tyJ9 : Nat → FieldType := fun k => match k with
  | _ => .int
abbrev wsJ90 : List Cond := u_ws RJ9 TJ9 0
theorem nmJ9 : ∀ a, a < 0 → ∀ b, b < 0 → a ≠ b → (TJ9 a).2.1 ≠ (TJ9 b).2.1 := by decide +kernel
theorem tyJ9_ok : ∀ k, k < 0 → parseFieldDescriptor (TJ9 k).2.2.1 = some (tyJ9 k) := by decide +kernel
abbrev cJ9_floorDiv_7cf53 : ByteArray := prog_15_method_47_code
def yJ9_floorDiv_7cf53 : MethodName := ⟨RJ9, "floorDiv", "(II)I"⟩
abbrev cJ9_floorMod_7cf53 : ByteArray := prog_15_method_50_code
def yJ9_floorMod_7cf53 : MethodName := ⟨RJ9, "floorMod", "(II)I"⟩
abbrev cJ9_max_7cf53 : ByteArray := prog_15_method_65_code
def yJ9_max_7cf53 : MethodName := ⟨RJ9, "max", "(II)I"⟩
abbrev cJ9_min_7cf53 : ByteArray := prog_15_method_69_code
def yJ9_min_7cf53 : MethodName := ⟨RJ9, "min", "(II)I"⟩
def RJ0 : String := "java/lang/String"
def TJ0 : u_T := fun k => match k with
  | _ => ("", "", "", false)
def tyJ0 : Nat → FieldType := fun k => match k with
  | _ => .int
abbrev wsJ00 : List Cond := u_ws RJ0 TJ0 0
theorem nmJ0 : ∀ a, a < 0 → ∀ b, b < 0 → a ≠ b → (TJ0 a).2.1 ≠ (TJ0 b).2.1 := by decide +kernel
theorem tyJ0_ok : ∀ k, k < 0 → parseFieldDescriptor (TJ0 k).2.2.1 = some (tyJ0 k) := by decide +kernel
def RJ7 : String := "java/util/Arrays"
def TJ7 : u_T := fun k => match k with
  | _ => ("", "", "", false)
def tyJ7 : Nat → FieldType := fun k => match k with
  | _ => .int
abbrev wsJ70 : List Cond := u_ws RJ7 TJ7 0
theorem nmJ7 : ∀ a, a < 0 → ∀ b, b < 0 → a ≠ b → (TJ7 a).2.1 ≠ (TJ7 b).2.1 := by decide +kernel
theorem tyJ7_ok : ∀ k, k < 0 → parseFieldDescriptor (TJ7 k).2.2.1 = some (tyJ7 k) := by decide +kernel
abbrev cJ7_fill_53178 : ByteArray := prog_19_method_103_code
def yJ7_fill_53178 : MethodName := ⟨RJ7, "fill", "([II)V"⟩
def RL : String := "SkyLoomLaw"
abbrev cL_draws : ByteArray := method_2_code
def yL_draws : MethodName := ⟨RL, "draws", "(LSkyLoom;III)I"⟩
abbrev cL_undoes : ByteArray := method_3_code
def yL_undoes : MethodName := ⟨RL, "undoes", "(LSkyLoom;)I"⟩
abbrev cL_plans : ByteArray := method_4_code
def yL_plans : MethodName := ⟨RL, "plans", "(LSkyLoom;IIII)I"⟩
abbrev cL_print : ByteArray := method_5_code
def yL_print : MethodName := ⟨RL, "print", "(LSkyLoom;)J"⟩
abbrev cL_areNames : ByteArray := method_6_code
def yL_areNames : MethodName := ⟨RL, "areNames", "(LSkyLoom;)Z"⟩
abbrev cL_areHours : ByteArray := method_7_code
def yL_areHours : MethodName := ⟨RL, "areHours", "(LSkyLoom;IIII)Z"⟩
abbrev cL_law : ByteArray := code
def yL_law : MethodName := ⟨RL, "law", "([I)Z"⟩
abbrev vwCl : List vw_C := [(RX1, TX1, 3), (RX2, TX2, 3), (RX3, TX3, 7), (RX4, TX4, 5), (RX5, TX5, 4), (RX6, TX6, 5)]
end
section
theorem dX0_sine_0 : decode cX0_sine 0 = .ok (.iload_n 0, 1) := by decide +kernel
theorem dX0_sine_1 : decode cX0_sine 1 = .ok (.sipush 360, 3) := by decide +kernel
theorem dX0_sine_4 : decode cX0_sine 4 = .ok (.invokestatic 9, 3) := by decide +kernel
theorem dX0_sine_7 : decode cX0_sine 7 = .ok (.istore_n 1, 1) := by decide +kernel
theorem dX0_sine_8 : decode cX0_sine 8 = .ok (.iload_n 1, 1) := by decide +kernel
theorem dX0_sine_9 : decode cX0_sine 9 = .ok (.sipush 180, 3) := by decide +kernel
theorem dX0_sine_12 : decode cX0_sine 12 = .ok (.irem, 1) := by decide +kernel
theorem dX0_sine_13 : decode cX0_sine 13 = .ok (.istore_n 2, 1) := by decide +kernel
theorem dX0_sine_14 : decode cX0_sine 14 = .ok (.iload_n 2, 1) := by decide +kernel
theorem dX0_sine_15 : decode cX0_sine 15 = .ok (.sipush 180, 3) := by decide +kernel
theorem dX0_sine_18 : decode cX0_sine 18 = .ok (.iload_n 2, 1) := by decide +kernel
theorem dX0_sine_19 : decode cX0_sine 19 = .ok (.isub, 1) := by decide +kernel
theorem dX0_sine_20 : decode cX0_sine 20 = .ok (.imul, 1) := by decide +kernel
theorem dX0_sine_21 : decode cX0_sine 21 = .ok (.istore_n 3, 1) := by decide +kernel
theorem dX0_sine_22 : decode cX0_sine 22 = .ok (.ldc 17, 2) := by decide +kernel
theorem dX0_sine_24 : decode cX0_sine 24 = .ok (.iload_n 3, 1) := by decide +kernel
theorem dX0_sine_25 : decode cX0_sine 25 = .ok (.isub, 1) := by decide +kernel
theorem dX0_sine_26 : decode cX0_sine 26 = .ok (.istore 4, 2) := by decide +kernel
theorem dX0_sine_28 : decode cX0_sine 28 = .ok (.iload 4, 2) := by decide +kernel
theorem dX0_sine_30 : decode cX0_sine 30 = .ok (.ifCond .le 14, 3) := by decide +kernel
theorem dX0_sine_33 : decode cX0_sine 33 = .ok (.sipush 4000, 3) := by decide +kernel
theorem dX0_sine_36 : decode cX0_sine 36 = .ok (.iload_n 3, 1) := by decide +kernel
theorem dX0_sine_37 : decode cX0_sine 37 = .ok (.imul, 1) := by decide +kernel
theorem dX0_sine_38 : decode cX0_sine 38 = .ok (.iload 4, 2) := by decide +kernel
theorem dX0_sine_40 : decode cX0_sine 40 = .ok (.idiv, 1) := by decide +kernel
theorem dX0_sine_41 : decode cX0_sine 41 = .ok (.goto 4, 3) := by decide +kernel
theorem dX0_sine_44 : decode cX0_sine 44 = .ok (.iconst 0, 1) := by decide +kernel
theorem dX0_sine_45 : decode cX0_sine 45 = .ok (.istore 5, 2) := by decide +kernel
theorem dX0_sine_47 : decode cX0_sine 47 = .ok (.iload_n 1, 1) := by decide +kernel
theorem dX0_sine_48 : decode cX0_sine 48 = .ok (.sipush 180, 3) := by decide +kernel
theorem dX0_sine_51 : decode cX0_sine 51 = .ok (.if_icmp .ge 8, 3) := by decide +kernel
theorem dX0_sine_54 : decode cX0_sine 54 = .ok (.iload 5, 2) := by decide +kernel
theorem dX0_sine_56 : decode cX0_sine 56 = .ok (.goto 6, 3) := by decide +kernel
theorem dX0_sine_59 : decode cX0_sine 59 = .ok (.iload 5, 2) := by decide +kernel
theorem dX0_sine_61 : decode cX0_sine 61 = .ok (.ineg, 1) := by decide +kernel
theorem dX0_sine_62 : decode cX0_sine 62 = .ok (.ireturn, 1) := by decide +kernel
theorem dX0_cosine_0 : decode cX0_cosine 0 = .ok (.iload_n 0, 1) := by decide +kernel
theorem dX0_cosine_1 : decode cX0_cosine 1 = .ok (.bipush 90, 2) := by decide +kernel
theorem dX0_cosine_3 : decode cX0_cosine 3 = .ok (.iadd, 1) := by decide +kernel
theorem dX0_cosine_4 : decode cX0_cosine 4 = .ok (.invokestatic 18, 3) := by decide +kernel
theorem dX0_cosine_7 : decode cX0_cosine 7 = .ok (.ireturn, 1) := by decide +kernel
theorem dX1_init_0 : decode cX1_init 0 = .ok (.aload_n 0, 1) := by decide +kernel
theorem dX1_init_1 : decode cX1_init 1 = .ok (.invokespecial 3, 3) := by decide +kernel
theorem dX1_init_4 : decode cX1_init 4 = .ok (.aload_n 0, 1) := by decide +kernel
theorem dX1_init_5 : decode cX1_init 5 = .ok (.bipush 48, 2) := by decide +kernel
theorem dX1_init_7 : decode cX1_init 7 = .ok (.newarray .int, 2) := by decide +kernel
theorem dX1_init_9 : decode cX1_init 9 = .ok (.putfield 9, 3) := by decide +kernel
theorem dX1_init_12 : decode cX1_init 12 = .ok (.aload_n 0, 1) := by decide +kernel
theorem dX1_init_13 : decode cX1_init 13 = .ok (.bipush 80, 2) := by decide +kernel
theorem dX1_init_15 : decode cX1_init 15 = .ok (.newarray .int, 2) := by decide +kernel
theorem dX1_init_17 : decode cX1_init 17 = .ok (.putfield 15, 3) := by decide +kernel
theorem dX1_init_20 : decode cX1_init 20 = .ok (.aload_n 0, 1) := by decide +kernel
theorem dX1_init_21 : decode cX1_init 21 = .ok (.bipush 8, 2) := by decide +kernel
theorem dX1_init_23 : decode cX1_init 23 = .ok (.newarray .int, 2) := by decide +kernel
theorem dX1_init_25 : decode cX1_init 25 = .ok (.putfield 18, 3) := by decide +kernel
theorem dX1_init_28 : decode cX1_init 28 = .ok (.aload_n 0, 1) := by decide +kernel
theorem dX1_init_29 : decode cX1_init 29 = .ok (.getfield 9, 3) := by decide +kernel
theorem dX1_init_32 : decode cX1_init 32 = .ok (.iconst (-1), 1) := by decide +kernel
theorem dX1_init_33 : decode cX1_init 33 = .ok (.invokestatic 21, 3) := by decide +kernel
theorem dX1_init_36 : decode cX1_init 36 = .ok (.aload_n 0, 1) := by decide +kernel
theorem dX1_init_37 : decode cX1_init 37 = .ok (.getfield 18, 3) := by decide +kernel
theorem dX1_init_40 : decode cX1_init 40 = .ok (.iconst (-1), 1) := by decide +kernel
theorem dX1_init_41 : decode cX1_init 41 = .ok (.invokestatic 21, 3) := by decide +kernel
theorem dX1_init_44 : decode cX1_init 44 = .ok (.return_, 1) := by decide +kernel
theorem dX1_replace_0 : decode cX1_replace 0 = .ok (.iload_n 1, 1) := by decide +kernel
theorem dX1_replace_1 : decode cX1_replace 1 = .ok (.bipush 8, 2) := by decide +kernel
theorem dX1_replace_3 : decode cX1_replace 3 = .ok (.imul, 1) := by decide +kernel
theorem dX1_replace_4 : decode cX1_replace 4 = .ok (.iload_n 2, 1) := by decide +kernel
theorem dX1_replace_5 : decode cX1_replace 5 = .ok (.iadd, 1) := by decide +kernel
theorem dX1_replace_6 : decode cX1_replace 6 = .ok (.istore 4, 2) := by decide +kernel
theorem dX1_replace_8 : decode cX1_replace 8 = .ok (.aload_n 0, 1) := by decide +kernel
theorem dX1_replace_9 : decode cX1_replace 9 = .ok (.getfield 9, 3) := by decide +kernel
theorem dX1_replace_12 : decode cX1_replace 12 = .ok (.iload 4, 2) := by decide +kernel
theorem dX1_replace_14 : decode cX1_replace 14 = .ok (.iaload, 1) := by decide +kernel
theorem dX1_replace_15 : decode cX1_replace 15 = .ok (.istore 5, 2) := by decide +kernel
theorem dX1_replace_17 : decode cX1_replace 17 = .ok (.aload_n 0, 1) := by decide +kernel
theorem dX1_replace_18 : decode cX1_replace 18 = .ok (.getfield 9, 3) := by decide +kernel
theorem dX1_replace_21 : decode cX1_replace 21 = .ok (.iload 4, 2) := by decide +kernel
theorem dX1_replace_23 : decode cX1_replace 23 = .ok (.iload_n 3, 1) := by decide +kernel
theorem dX1_replace_24 : decode cX1_replace 24 = .ok (.iastore, 1) := by decide +kernel
theorem dX1_replace_25 : decode cX1_replace 25 = .ok (.aload_n 0, 1) := by decide +kernel
theorem dX1_replace_26 : decode cX1_replace 26 = .ok (.iload_n 2, 1) := by decide +kernel
theorem dX1_replace_27 : decode cX1_replace 27 = .ok (.iload 5, 2) := by decide +kernel
theorem dX1_replace_29 : decode cX1_replace 29 = .ok (.iconst (-1), 1) := by decide +kernel
theorem dX1_replace_30 : decode cX1_replace 30 = .ok (.invokevirtual 27, 3) := by decide +kernel
theorem dX1_replace_33 : decode cX1_replace 33 = .ok (.aload_n 0, 1) := by decide +kernel
theorem dX1_replace_34 : decode cX1_replace 34 = .ok (.iload_n 2, 1) := by decide +kernel
theorem dX1_replace_35 : decode cX1_replace 35 = .ok (.iload_n 3, 1) := by decide +kernel
theorem dX1_replace_36 : decode cX1_replace 36 = .ok (.iconst 1, 1) := by decide +kernel
theorem dX1_replace_37 : decode cX1_replace 37 = .ok (.invokevirtual 27, 3) := by decide +kernel
theorem dX1_replace_40 : decode cX1_replace 40 = .ok (.aload_n 0, 1) := by decide +kernel
theorem dX1_replace_41 : decode cX1_replace 41 = .ok (.invokevirtual 31, 3) := by decide +kernel
theorem dX1_replace_44 : decode cX1_replace 44 = .ok (.iload 5, 2) := by decide +kernel
theorem dX1_replace_46 : decode cX1_replace 46 = .ok (.ireturn, 1) := by decide +kernel
theorem dX1_count_0 : decode cX1_count 0 = .ok (.iload_n 2, 1) := by decide +kernel
theorem dX1_count_1 : decode cX1_count 1 = .ok (.iconst (-1), 1) := by decide +kernel
theorem dX1_count_2 : decode cX1_count 2 = .ok (.if_icmp .eq 18, 3) := by decide +kernel
theorem dX1_count_5 : decode cX1_count 5 = .ok (.aload_n 0, 1) := by decide +kernel
theorem dX1_count_6 : decode cX1_count 6 = .ok (.getfield 15, 3) := by decide +kernel
theorem dX1_count_9 : decode cX1_count 9 = .ok (.iload_n 1, 1) := by decide +kernel
theorem dX1_count_10 : decode cX1_count 10 = .ok (.bipush 10, 2) := by decide +kernel
theorem dX1_count_12 : decode cX1_count 12 = .ok (.imul, 1) := by decide +kernel
theorem dX1_count_13 : decode cX1_count 13 = .ok (.iload_n 2, 1) := by decide +kernel
theorem dX1_count_14 : decode cX1_count 14 = .ok (.iadd, 1) := by decide +kernel
theorem dX1_count_15 : decode cX1_count 15 = .ok (.dup2, 1) := by decide +kernel
theorem dX1_count_16 : decode cX1_count 16 = .ok (.iaload, 1) := by decide +kernel
theorem dX1_count_17 : decode cX1_count 17 = .ok (.iload_n 3, 1) := by decide +kernel
theorem dX1_count_18 : decode cX1_count 18 = .ok (.iadd, 1) := by decide +kernel
theorem dX1_count_19 : decode cX1_count 19 = .ok (.iastore, 1) := by decide +kernel
theorem dX1_count_20 : decode cX1_count 20 = .ok (.return_, 1) := by decide +kernel
theorem dX1_giveNames_0 : decode cX1_giveNames 0 = .ok (.aload_n 0, 1) := by decide +kernel
theorem dX1_giveNames_1 : decode cX1_giveNames 1 = .ok (.getfield 18, 3) := by decide +kernel
theorem dX1_giveNames_4 : decode cX1_giveNames 4 = .ok (.iconst (-1), 1) := by decide +kernel
theorem dX1_giveNames_5 : decode cX1_giveNames 5 = .ok (.invokestatic 21, 3) := by decide +kernel
theorem dX1_giveNames_8 : decode cX1_giveNames 8 = .ok (.iconst 0, 1) := by decide +kernel
theorem dX1_giveNames_9 : decode cX1_giveNames 9 = .ok (.istore_n 1, 1) := by decide +kernel
theorem dX1_giveNames_10 : decode cX1_giveNames 10 = .ok (.bipush 6, 2) := by decide +kernel
theorem dX1_giveNames_12 : decode cX1_giveNames 12 = .ok (.istore_n 2, 1) := by decide +kernel
theorem dX1_giveNames_13 : decode cX1_giveNames 13 = .ok (.iload_n 2, 1) := by decide +kernel
theorem dX1_giveNames_14 : decode cX1_giveNames 14 = .ok (.ifCond .le 33, 3) := by decide +kernel
theorem dX1_giveNames_17 : decode cX1_giveNames 17 = .ok (.iconst 0, 1) := by decide +kernel
theorem dX1_giveNames_18 : decode cX1_giveNames 18 = .ok (.istore_n 3, 1) := by decide +kernel
theorem dX1_giveNames_19 : decode cX1_giveNames 19 = .ok (.iload_n 3, 1) := by decide +kernel
theorem dX1_giveNames_20 : decode cX1_giveNames 20 = .ok (.bipush 8, 2) := by decide +kernel
theorem dX1_giveNames_22 : decode cX1_giveNames 22 = .ok (.if_icmp .ge 19, 3) := by decide +kernel
theorem dX1_giveNames_25 : decode cX1_giveNames 25 = .ok (.iload_n 1, 1) := by decide +kernel
theorem dX1_giveNames_26 : decode cX1_giveNames 26 = .ok (.aload_n 0, 1) := by decide +kernel
theorem dX1_giveNames_27 : decode cX1_giveNames 27 = .ok (.iload_n 3, 1) := by decide +kernel
theorem dX1_giveNames_28 : decode cX1_giveNames 28 = .ok (.iload_n 2, 1) := by decide +kernel
theorem dX1_giveNames_29 : decode cX1_giveNames 29 = .ok (.iload_n 1, 1) := by decide +kernel
theorem dX1_giveNames_30 : decode cX1_giveNames 30 = .ok (.invokevirtual 34, 3) := by decide +kernel
theorem dX1_giveNames_33 : decode cX1_giveNames 33 = .ok (.ior, 1) := by decide +kernel
theorem dX1_giveNames_34 : decode cX1_giveNames 34 = .ok (.istore_n 1, 1) := by decide +kernel
theorem dX1_giveNames_35 : decode cX1_giveNames 35 = .ok (.iinc 3 1, 3) := by decide +kernel
theorem dX1_giveNames_38 : decode cX1_giveNames 38 = .ok (.goto (-19), 3) := by decide +kernel
theorem dX1_giveNames_41 : decode cX1_giveNames 41 = .ok (.iinc 2 (-1), 3) := by decide +kernel
theorem dX1_giveNames_44 : decode cX1_giveNames 44 = .ok (.goto (-31), 3) := by decide +kernel
theorem dX1_giveNames_47 : decode cX1_giveNames 47 = .ok (.return_, 1) := by decide +kernel
theorem dX1_giveName_0 : decode cX1_giveName 0 = .ok (.iconst 0, 1) := by decide +kernel
theorem dX1_giveName_1 : decode cX1_giveName 1 = .ok (.istore 4, 2) := by decide +kernel
theorem dX1_giveName_3 : decode cX1_giveName 3 = .ok (.iload 4, 2) := by decide +kernel
theorem dX1_giveName_5 : decode cX1_giveName 5 = .ok (.bipush 10, 2) := by decide +kernel
theorem dX1_giveName_7 : decode cX1_giveName 7 = .ok (.if_icmp .ge 69, 3) := by decide +kernel
theorem dX1_giveName_10 : decode cX1_giveName 10 = .ok (.aload_n 0, 1) := by decide +kernel
theorem dX1_giveName_11 : decode cX1_giveName 11 = .ok (.getfield 18, 3) := by decide +kernel
theorem dX1_giveName_14 : decode cX1_giveName 14 = .ok (.iload_n 1, 1) := by decide +kernel
theorem dX1_giveName_15 : decode cX1_giveName 15 = .ok (.iaload, 1) := by decide +kernel
theorem dX1_giveName_16 : decode cX1_giveName 16 = .ok (.iconst (-1), 1) := by decide +kernel
theorem dX1_giveName_17 : decode cX1_giveName 17 = .ok (.if_icmp .ne 59, 3) := by decide +kernel
theorem dX1_giveName_20 : decode cX1_giveName 20 = .ok (.iload_n 3, 1) := by decide +kernel
theorem dX1_giveName_21 : decode cX1_giveName 21 = .ok (.iconst 1, 1) := by decide +kernel
theorem dX1_giveName_22 : decode cX1_giveName 22 = .ok (.iload 4, 2) := by decide +kernel
theorem dX1_giveName_24 : decode cX1_giveName 24 = .ok (.ishl, 1) := by decide +kernel
theorem dX1_giveName_25 : decode cX1_giveName 25 = .ok (.iand, 1) := by decide +kernel
theorem dX1_giveName_26 : decode cX1_giveName 26 = .ok (.ifCond .ne 7, 3) := by decide +kernel
theorem dX1_giveName_29 : decode cX1_giveName 29 = .ok (.iconst 1, 1) := by decide +kernel
theorem dX1_giveName_30 : decode cX1_giveName 30 = .ok (.goto 4, 3) := by decide +kernel
theorem dX1_giveName_33 : decode cX1_giveName 33 = .ok (.iconst 0, 1) := by decide +kernel
theorem dX1_giveName_34 : decode cX1_giveName 34 = .ok (.istore 5, 2) := by decide +kernel
theorem dX1_giveName_36 : decode cX1_giveName 36 = .ok (.iload 5, 2) := by decide +kernel
theorem dX1_giveName_38 : decode cX1_giveName 38 = .ok (.ifCond .eq 32, 3) := by decide +kernel
theorem dX1_giveName_41 : decode cX1_giveName 41 = .ok (.aload_n 0, 1) := by decide +kernel
theorem dX1_giveName_42 : decode cX1_giveName 42 = .ok (.getfield 15, 3) := by decide +kernel
theorem dX1_giveName_45 : decode cX1_giveName 45 = .ok (.iload_n 1, 1) := by decide +kernel
theorem dX1_giveName_46 : decode cX1_giveName 46 = .ok (.bipush 10, 2) := by decide +kernel
theorem dX1_giveName_48 : decode cX1_giveName 48 = .ok (.imul, 1) := by decide +kernel
theorem dX1_giveName_49 : decode cX1_giveName 49 = .ok (.iload 4, 2) := by decide +kernel
theorem dX1_giveName_51 : decode cX1_giveName 51 = .ok (.iadd, 1) := by decide +kernel
theorem dX1_giveName_52 : decode cX1_giveName 52 = .ok (.iaload, 1) := by decide +kernel
theorem dX1_giveName_53 : decode cX1_giveName 53 = .ok (.iload_n 2, 1) := by decide +kernel
theorem dX1_giveName_54 : decode cX1_giveName 54 = .ok (.if_icmp .ne 16, 3) := by decide +kernel
theorem dX1_giveName_57 : decode cX1_giveName 57 = .ok (.aload_n 0, 1) := by decide +kernel
theorem dX1_giveName_58 : decode cX1_giveName 58 = .ok (.getfield 18, 3) := by decide +kernel
theorem dX1_giveName_61 : decode cX1_giveName 61 = .ok (.iload_n 1, 1) := by decide +kernel
theorem dX1_giveName_62 : decode cX1_giveName 62 = .ok (.iload 4, 2) := by decide +kernel
theorem dX1_giveName_64 : decode cX1_giveName 64 = .ok (.iastore, 1) := by decide +kernel
theorem dX1_giveName_65 : decode cX1_giveName 65 = .ok (.iconst 1, 1) := by decide +kernel
theorem dX1_giveName_66 : decode cX1_giveName 66 = .ok (.iload 4, 2) := by decide +kernel
theorem dX1_giveName_68 : decode cX1_giveName 68 = .ok (.ishl, 1) := by decide +kernel
theorem dX1_giveName_69 : decode cX1_giveName 69 = .ok (.ireturn, 1) := by decide +kernel
theorem dX1_giveName_70 : decode cX1_giveName 70 = .ok (.iinc 4 1, 3) := by decide +kernel
theorem dX1_giveName_73 : decode cX1_giveName 73 = .ok (.goto (-70), 3) := by decide +kernel
theorem dX1_giveName_76 : decode cX1_giveName 76 = .ok (.iconst 0, 1) := by decide +kernel
theorem dX1_giveName_77 : decode cX1_giveName 77 = .ok (.ireturn, 1) := by decide +kernel
theorem dX2_init_0 : decode cX2_init 0 = .ok (.aload_n 0, 1) := by decide +kernel
theorem dX2_init_1 : decode cX2_init 1 = .ok (.invokespecial 3, 3) := by decide +kernel
theorem dX2_init_4 : decode cX2_init 4 = .ok (.aload_n 0, 1) := by decide +kernel
theorem dX2_init_5 : decode cX2_init 5 = .ok (.bipush 24, 2) := by decide +kernel
theorem dX2_init_7 : decode cX2_init 7 = .ok (.newarray .int, 2) := by decide +kernel
theorem dX2_init_9 : decode cX2_init 9 = .ok (.putfield 9, 3) := by decide +kernel
theorem dX2_init_12 : decode cX2_init 12 = .ok (.aload_n 0, 1) := by decide +kernel
theorem dX2_init_13 : decode cX2_init 13 = .ok (.bipush 24, 2) := by decide +kernel
theorem dX2_init_15 : decode cX2_init 15 = .ok (.newarray .int, 2) := by decide +kernel
theorem dX2_init_17 : decode cX2_init 17 = .ok (.putfield 15, 3) := by decide +kernel
theorem dX2_init_20 : decode cX2_init 20 = .ok (.return_, 1) := by decide +kernel
theorem dX2_append_0 : decode cX2_append 0 = .ok (.aload_n 0, 1) := by decide +kernel
theorem dX2_append_1 : decode cX2_append 1 = .ok (.getfield 18, 3) := by decide +kernel
theorem dX2_append_4 : decode cX2_append 4 = .ok (.istore_n 3, 1) := by decide +kernel
theorem dX2_append_5 : decode cX2_append 5 = .ok (.iload_n 3, 1) := by decide +kernel
theorem dX2_append_6 : decode cX2_append 6 = .ok (.bipush 24, 2) := by decide +kernel
theorem dX2_append_8 : decode cX2_append 8 = .ok (.if_icmp .ge 20, 3) := by decide +kernel
theorem dX2_append_11 : decode cX2_append 11 = .ok (.aload_n 0, 1) := by decide +kernel
theorem dX2_append_12 : decode cX2_append 12 = .ok (.iload_n 3, 1) := by decide +kernel
theorem dX2_append_13 : decode cX2_append 13 = .ok (.iload_n 1, 1) := by decide +kernel
theorem dX2_append_14 : decode cX2_append 14 = .ok (.iload_n 2, 1) := by decide +kernel
theorem dX2_append_15 : decode cX2_append 15 = .ok (.invokevirtual 22, 3) := by decide +kernel
theorem dX2_append_18 : decode cX2_append 18 = .ok (.aload_n 0, 1) := by decide +kernel
theorem dX2_append_19 : decode cX2_append 19 = .ok (.dup, 1) := by decide +kernel
theorem dX2_append_20 : decode cX2_append 20 = .ok (.getfield 18, 3) := by decide +kernel
theorem dX2_append_23 : decode cX2_append 23 = .ok (.iconst 1, 1) := by decide +kernel
theorem dX2_append_24 : decode cX2_append 24 = .ok (.iadd, 1) := by decide +kernel
theorem dX2_append_25 : decode cX2_append 25 = .ok (.putfield 18, 3) := by decide +kernel
theorem dX2_append_28 : decode cX2_append 28 = .ok (.iload_n 3, 1) := by decide +kernel
theorem dX2_append_29 : decode cX2_append 29 = .ok (.ireturn, 1) := by decide +kernel
theorem dX2_move_0 : decode cX2_move 0 = .ok (.aload_n 0, 1) := by decide +kernel
theorem dX2_move_1 : decode cX2_move 1 = .ok (.getfield 9, 3) := by decide +kernel
theorem dX2_move_4 : decode cX2_move 4 = .ok (.iload_n 1, 1) := by decide +kernel
theorem dX2_move_5 : decode cX2_move 5 = .ok (.iload_n 2, 1) := by decide +kernel
theorem dX2_move_6 : decode cX2_move 6 = .ok (.iastore, 1) := by decide +kernel
theorem dX2_move_7 : decode cX2_move 7 = .ok (.aload_n 0, 1) := by decide +kernel
theorem dX2_move_8 : decode cX2_move 8 = .ok (.getfield 15, 3) := by decide +kernel
theorem dX2_move_11 : decode cX2_move 11 = .ok (.iload_n 1, 1) := by decide +kernel
theorem dX2_move_12 : decode cX2_move 12 = .ok (.iload_n 3, 1) := by decide +kernel
theorem dX2_move_13 : decode cX2_move 13 = .ok (.iastore, 1) := by decide +kernel
theorem dX2_move_14 : decode cX2_move 14 = .ok (.return_, 1) := by decide +kernel
theorem dX2_heightAt_0 : decode cX2_heightAt 0 = .ok (.aload_n 0, 1) := by decide +kernel
theorem dX2_heightAt_1 : decode cX2_heightAt 1 = .ok (.getfield 15, 3) := by decide +kernel
theorem dX2_heightAt_4 : decode cX2_heightAt 4 = .ok (.iload_n 1, 1) := by decide +kernel
theorem dX2_heightAt_5 : decode cX2_heightAt 5 = .ok (.iaload, 1) := by decide +kernel
theorem dX2_heightAt_6 : decode cX2_heightAt 6 = .ok (.istore 4, 2) := by decide +kernel
theorem dX2_heightAt_8 : decode cX2_heightAt 8 = .ok (.iload_n 2, 1) := by decide +kernel
theorem dX2_heightAt_9 : decode cX2_heightAt 9 = .ok (.invokestatic 26, 3) := by decide +kernel
theorem dX2_heightAt_12 : decode cX2_heightAt 12 = .ok (.iload 4, 2) := by decide +kernel
theorem dX2_heightAt_14 : decode cX2_heightAt 14 = .ok (.invokestatic 26, 3) := by decide +kernel
theorem dX2_heightAt_17 : decode cX2_heightAt 17 = .ok (.imul, 1) := by decide +kernel
theorem dX2_heightAt_18 : decode cX2_heightAt 18 = .ok (.istore 5, 2) := by decide +kernel
theorem dX2_heightAt_20 : decode cX2_heightAt 20 = .ok (.iload_n 2, 1) := by decide +kernel
theorem dX2_heightAt_21 : decode cX2_heightAt 21 = .ok (.invokestatic 32, 3) := by decide +kernel
theorem dX2_heightAt_24 : decode cX2_heightAt 24 = .ok (.iload 4, 2) := by decide +kernel
theorem dX2_heightAt_26 : decode cX2_heightAt 26 = .ok (.invokestatic 32, 3) := by decide +kernel
theorem dX2_heightAt_29 : decode cX2_heightAt 29 = .ok (.imul, 1) := by decide +kernel
theorem dX2_heightAt_30 : decode cX2_heightAt 30 = .ok (.iload_n 3, 1) := by decide +kernel
theorem dX2_heightAt_31 : decode cX2_heightAt 31 = .ok (.aload_n 0, 1) := by decide +kernel
theorem dX2_heightAt_32 : decode cX2_heightAt 32 = .ok (.getfield 9, 3) := by decide +kernel
theorem dX2_heightAt_35 : decode cX2_heightAt 35 = .ok (.iload_n 1, 1) := by decide +kernel
theorem dX2_heightAt_36 : decode cX2_heightAt 36 = .ok (.iaload, 1) := by decide +kernel
theorem dX2_heightAt_37 : decode cX2_heightAt 37 = .ok (.isub, 1) := by decide +kernel
theorem dX2_heightAt_38 : decode cX2_heightAt 38 = .ok (.invokestatic 32, 3) := by decide +kernel
theorem dX2_heightAt_41 : decode cX2_heightAt 41 = .ok (.imul, 1) := by decide +kernel
theorem dX2_heightAt_42 : decode cX2_heightAt 42 = .ok (.istore 6, 2) := by decide +kernel
theorem dX2_heightAt_44 : decode cX2_heightAt 44 = .ok (.iload 5, 2) := by decide +kernel
theorem dX2_heightAt_46 : decode cX2_heightAt 46 = .ok (.iload 6, 2) := by decide +kernel
theorem dX2_heightAt_48 : decode cX2_heightAt 48 = .ok (.sipush 1000, 3) := by decide +kernel
theorem dX2_heightAt_51 : decode cX2_heightAt 51 = .ok (.invokestatic 35, 3) := by decide +kernel
theorem dX2_heightAt_54 : decode cX2_heightAt 54 = .ok (.iadd, 1) := by decide +kernel
theorem dX2_heightAt_55 : decode cX2_heightAt 55 = .ok (.sipush 1000, 3) := by decide +kernel
theorem dX2_heightAt_58 : decode cX2_heightAt 58 = .ok (.invokestatic 35, 3) := by decide +kernel
theorem dX2_heightAt_61 : decode cX2_heightAt 61 = .ok (.ireturn, 1) := by decide +kernel
theorem dX2_meet_0 : decode cX2_meet 0 = .ok (.aload_n 0, 1) := by decide +kernel
theorem dX2_meet_1 : decode cX2_meet 1 = .ok (.getfield 9, 3) := by decide +kernel
theorem dX2_meet_4 : decode cX2_meet 4 = .ok (.iload_n 1, 1) := by decide +kernel
theorem dX2_meet_5 : decode cX2_meet 5 = .ok (.iaload, 1) := by decide +kernel
theorem dX2_meet_6 : decode cX2_meet 6 = .ok (.aload_n 0, 1) := by decide +kernel
theorem dX2_meet_7 : decode cX2_meet 7 = .ok (.getfield 9, 3) := by decide +kernel
theorem dX2_meet_10 : decode cX2_meet 10 = .ok (.iload_n 2, 1) := by decide +kernel
theorem dX2_meet_11 : decode cX2_meet 11 = .ok (.iaload, 1) := by decide +kernel
theorem dX2_meet_12 : decode cX2_meet 12 = .ok (.aload_n 0, 1) := by decide +kernel
theorem dX2_meet_13 : decode cX2_meet 13 = .ok (.getfield 9, 3) := by decide +kernel
theorem dX2_meet_16 : decode cX2_meet 16 = .ok (.iload_n 3, 1) := by decide +kernel
theorem dX2_meet_17 : decode cX2_meet 17 = .ok (.iaload, 1) := by decide +kernel
theorem dX2_meet_18 : decode cX2_meet 18 = .ok (.aload_n 0, 1) := by decide +kernel
theorem dX2_meet_19 : decode cX2_meet 19 = .ok (.getfield 9, 3) := by decide +kernel
theorem dX2_meet_22 : decode cX2_meet 22 = .ok (.iload 4, 2) := by decide +kernel
theorem dX2_meet_24 : decode cX2_meet 24 = .ok (.iaload, 1) := by decide +kernel
theorem dX2_meet_25 : decode cX2_meet 25 = .ok (.invokestatic 41, 3) := by decide +kernel
theorem dX2_meet_28 : decode cX2_meet 28 = .ok (.ifCond .eq 62, 3) := by decide +kernel
theorem dX2_meet_31 : decode cX2_meet 31 = .ok (.aload_n 0, 1) := by decide +kernel
theorem dX2_meet_32 : decode cX2_meet 32 = .ok (.getfield 15, 3) := by decide +kernel
theorem dX2_meet_35 : decode cX2_meet 35 = .ok (.iload_n 1, 1) := by decide +kernel
theorem dX2_meet_36 : decode cX2_meet 36 = .ok (.iaload, 1) := by decide +kernel
theorem dX2_meet_37 : decode cX2_meet 37 = .ok (.aload_n 0, 1) := by decide +kernel
theorem dX2_meet_38 : decode cX2_meet 38 = .ok (.getfield 15, 3) := by decide +kernel
theorem dX2_meet_41 : decode cX2_meet 41 = .ok (.iload_n 2, 1) := by decide +kernel
theorem dX2_meet_42 : decode cX2_meet 42 = .ok (.iaload, 1) := by decide +kernel
theorem dX2_meet_43 : decode cX2_meet 43 = .ok (.aload_n 0, 1) := by decide +kernel
theorem dX2_meet_44 : decode cX2_meet 44 = .ok (.getfield 15, 3) := by decide +kernel
theorem dX2_meet_47 : decode cX2_meet 47 = .ok (.iload_n 3, 1) := by decide +kernel
theorem dX2_meet_48 : decode cX2_meet 48 = .ok (.iaload, 1) := by decide +kernel
theorem dX2_meet_49 : decode cX2_meet 49 = .ok (.aload_n 0, 1) := by decide +kernel
theorem dX2_meet_50 : decode cX2_meet 50 = .ok (.getfield 15, 3) := by decide +kernel
theorem dX2_meet_53 : decode cX2_meet 53 = .ok (.iload 4, 2) := by decide +kernel
theorem dX2_meet_55 : decode cX2_meet 55 = .ok (.iaload, 1) := by decide +kernel
theorem dX2_meet_56 : decode cX2_meet 56 = .ok (.invokestatic 41, 3) := by decide +kernel
theorem dX2_meet_59 : decode cX2_meet 59 = .ok (.ifCond .eq 31, 3) := by decide +kernel
theorem dX2_meet_62 : decode cX2_meet 62 = .ok (.aload_n 0, 1) := by decide +kernel
theorem dX2_meet_63 : decode cX2_meet 63 = .ok (.iload_n 1, 1) := by decide +kernel
theorem dX2_meet_64 : decode cX2_meet 64 = .ok (.iload_n 2, 1) := by decide +kernel
theorem dX2_meet_65 : decode cX2_meet 65 = .ok (.iload_n 3, 1) := by decide +kernel
theorem dX2_meet_66 : decode cX2_meet 66 = .ok (.iload 4, 2) := by decide +kernel
theorem dX2_meet_68 : decode cX2_meet 68 = .ok (.invokevirtual 45, 3) := by decide +kernel
theorem dX2_meet_71 : decode cX2_meet 71 = .ok (.ifCond .eq 19, 3) := by decide +kernel
theorem dX2_meet_74 : decode cX2_meet 74 = .ok (.aload_n 0, 1) := by decide +kernel
theorem dX2_meet_75 : decode cX2_meet 75 = .ok (.iload_n 3, 1) := by decide +kernel
theorem dX2_meet_76 : decode cX2_meet 76 = .ok (.iload 4, 2) := by decide +kernel
theorem dX2_meet_78 : decode cX2_meet 78 = .ok (.iload_n 1, 1) := by decide +kernel
theorem dX2_meet_79 : decode cX2_meet 79 = .ok (.iload_n 2, 1) := by decide +kernel
theorem dX2_meet_80 : decode cX2_meet 80 = .ok (.invokevirtual 45, 3) := by decide +kernel
theorem dX2_meet_83 : decode cX2_meet 83 = .ok (.ifCond .eq 7, 3) := by decide +kernel
theorem dX2_meet_86 : decode cX2_meet 86 = .ok (.iconst 1, 1) := by decide +kernel
theorem dX2_meet_87 : decode cX2_meet 87 = .ok (.goto 4, 3) := by decide +kernel
theorem dX2_meet_90 : decode cX2_meet 90 = .ok (.iconst 0, 1) := by decide +kernel
theorem dX2_meet_91 : decode cX2_meet 91 = .ok (.ireturn, 1) := by decide +kernel
theorem dX2_spansOverlap_0 : decode cX2_spansOverlap 0 = .ok (.iload_n 0, 1) := by decide +kernel
theorem dX2_spansOverlap_1 : decode cX2_spansOverlap 1 = .ok (.iload_n 1, 1) := by decide +kernel
theorem dX2_spansOverlap_2 : decode cX2_spansOverlap 2 = .ok (.invokestatic 48, 3) := by decide +kernel
theorem dX2_spansOverlap_5 : decode cX2_spansOverlap 5 = .ok (.iload_n 2, 1) := by decide +kernel
theorem dX2_spansOverlap_6 : decode cX2_spansOverlap 6 = .ok (.iload_n 3, 1) := by decide +kernel
theorem dX2_spansOverlap_7 : decode cX2_spansOverlap 7 = .ok (.invokestatic 51, 3) := by decide +kernel
theorem dX2_spansOverlap_10 : decode cX2_spansOverlap 10 = .ok (.if_icmp .lt 20, 3) := by decide +kernel
theorem dX2_spansOverlap_13 : decode cX2_spansOverlap 13 = .ok (.iload_n 2, 1) := by decide +kernel
theorem dX2_spansOverlap_14 : decode cX2_spansOverlap 14 = .ok (.iload_n 3, 1) := by decide +kernel
theorem dX2_spansOverlap_15 : decode cX2_spansOverlap 15 = .ok (.invokestatic 48, 3) := by decide +kernel
theorem dX2_spansOverlap_18 : decode cX2_spansOverlap 18 = .ok (.iload_n 0, 1) := by decide +kernel
theorem dX2_spansOverlap_19 : decode cX2_spansOverlap 19 = .ok (.iload_n 1, 1) := by decide +kernel
theorem dX2_spansOverlap_20 : decode cX2_spansOverlap 20 = .ok (.invokestatic 51, 3) := by decide +kernel
theorem dX2_spansOverlap_23 : decode cX2_spansOverlap 23 = .ok (.if_icmp .lt 7, 3) := by decide +kernel
theorem dX2_spansOverlap_26 : decode cX2_spansOverlap 26 = .ok (.iconst 1, 1) := by decide +kernel
theorem dX2_spansOverlap_27 : decode cX2_spansOverlap 27 = .ok (.goto 4, 3) := by decide +kernel
theorem dX2_spansOverlap_30 : decode cX2_spansOverlap 30 = .ok (.iconst 0, 1) := by decide +kernel
theorem dX2_spansOverlap_31 : decode cX2_spansOverlap 31 = .ok (.ireturn, 1) := by decide +kernel
theorem dX2_straddles_0 : decode cX2_straddles 0 = .ok (.aload_n 0, 1) := by decide +kernel
theorem dX2_straddles_1 : decode cX2_straddles 1 = .ok (.iload_n 1, 1) := by decide +kernel
theorem dX2_straddles_2 : decode cX2_straddles 2 = .ok (.iload_n 2, 1) := by decide +kernel
theorem dX2_straddles_3 : decode cX2_straddles 3 = .ok (.iload_n 3, 1) := by decide +kernel
theorem dX2_straddles_4 : decode cX2_straddles 4 = .ok (.invokevirtual 54, 3) := by decide +kernel
theorem dX2_straddles_7 : decode cX2_straddles 7 = .ok (.aload_n 0, 1) := by decide +kernel
theorem dX2_straddles_8 : decode cX2_straddles 8 = .ok (.iload_n 1, 1) := by decide +kernel
theorem dX2_straddles_9 : decode cX2_straddles 9 = .ok (.iload_n 2, 1) := by decide +kernel
theorem dX2_straddles_10 : decode cX2_straddles 10 = .ok (.iload 4, 2) := by decide +kernel
theorem dX2_straddles_12 : decode cX2_straddles 12 = .ok (.invokevirtual 54, 3) := by decide +kernel
theorem dX2_straddles_15 : decode cX2_straddles 15 = .ok (.imul, 1) := by decide +kernel
theorem dX2_straddles_16 : decode cX2_straddles 16 = .ok (.ifCond .gt 7, 3) := by decide +kernel
theorem dX2_straddles_19 : decode cX2_straddles 19 = .ok (.iconst 1, 1) := by decide +kernel
theorem dX2_straddles_20 : decode cX2_straddles 20 = .ok (.goto 4, 3) := by decide +kernel
theorem dX2_straddles_23 : decode cX2_straddles 23 = .ok (.iconst 0, 1) := by decide +kernel
theorem dX2_straddles_24 : decode cX2_straddles 24 = .ok (.ireturn, 1) := by decide +kernel
theorem dX2_sideOf_0 : decode cX2_sideOf 0 = .ok (.aload_n 0, 1) := by decide +kernel
theorem dX2_sideOf_1 : decode cX2_sideOf 1 = .ok (.getfield 9, 3) := by decide +kernel
theorem dX2_sideOf_4 : decode cX2_sideOf 4 = .ok (.iload_n 2, 1) := by decide +kernel
theorem dX2_sideOf_5 : decode cX2_sideOf 5 = .ok (.iaload, 1) := by decide +kernel
theorem dX2_sideOf_6 : decode cX2_sideOf 6 = .ok (.aload_n 0, 1) := by decide +kernel
theorem dX2_sideOf_7 : decode cX2_sideOf 7 = .ok (.getfield 9, 3) := by decide +kernel
theorem dX2_sideOf_10 : decode cX2_sideOf 10 = .ok (.iload_n 1, 1) := by decide +kernel
theorem dX2_sideOf_11 : decode cX2_sideOf 11 = .ok (.iaload, 1) := by decide +kernel
theorem dX2_sideOf_12 : decode cX2_sideOf 12 = .ok (.isub, 1) := by decide +kernel
theorem dX2_sideOf_13 : decode cX2_sideOf 13 = .ok (.aload_n 0, 1) := by decide +kernel
theorem dX2_sideOf_14 : decode cX2_sideOf 14 = .ok (.getfield 15, 3) := by decide +kernel
theorem dX2_sideOf_17 : decode cX2_sideOf 17 = .ok (.iload_n 3, 1) := by decide +kernel
theorem dX2_sideOf_18 : decode cX2_sideOf 18 = .ok (.iaload, 1) := by decide +kernel
theorem dX2_sideOf_19 : decode cX2_sideOf 19 = .ok (.aload_n 0, 1) := by decide +kernel
theorem dX2_sideOf_20 : decode cX2_sideOf 20 = .ok (.getfield 15, 3) := by decide +kernel
theorem dX2_sideOf_23 : decode cX2_sideOf 23 = .ok (.iload_n 1, 1) := by decide +kernel
theorem dX2_sideOf_24 : decode cX2_sideOf 24 = .ok (.iaload, 1) := by decide +kernel
theorem dX2_sideOf_25 : decode cX2_sideOf 25 = .ok (.isub, 1) := by decide +kernel
theorem dX2_sideOf_26 : decode cX2_sideOf 26 = .ok (.imul, 1) := by decide +kernel
theorem dX2_sideOf_27 : decode cX2_sideOf 27 = .ok (.aload_n 0, 1) := by decide +kernel
theorem dX2_sideOf_28 : decode cX2_sideOf 28 = .ok (.getfield 15, 3) := by decide +kernel
theorem dX2_sideOf_31 : decode cX2_sideOf 31 = .ok (.iload_n 2, 1) := by decide +kernel
theorem dX2_sideOf_32 : decode cX2_sideOf 32 = .ok (.iaload, 1) := by decide +kernel
theorem dX2_sideOf_33 : decode cX2_sideOf 33 = .ok (.aload_n 0, 1) := by decide +kernel
theorem dX2_sideOf_34 : decode cX2_sideOf 34 = .ok (.getfield 15, 3) := by decide +kernel
theorem dX2_sideOf_37 : decode cX2_sideOf 37 = .ok (.iload_n 1, 1) := by decide +kernel
theorem dX2_sideOf_38 : decode cX2_sideOf 38 = .ok (.iaload, 1) := by decide +kernel
theorem dX2_sideOf_39 : decode cX2_sideOf 39 = .ok (.isub, 1) := by decide +kernel
theorem dX2_sideOf_40 : decode cX2_sideOf 40 = .ok (.aload_n 0, 1) := by decide +kernel
theorem dX2_sideOf_41 : decode cX2_sideOf 41 = .ok (.getfield 9, 3) := by decide +kernel
theorem dX2_sideOf_44 : decode cX2_sideOf 44 = .ok (.iload_n 3, 1) := by decide +kernel
theorem dX2_sideOf_45 : decode cX2_sideOf 45 = .ok (.iaload, 1) := by decide +kernel
theorem dX2_sideOf_46 : decode cX2_sideOf 46 = .ok (.aload_n 0, 1) := by decide +kernel
theorem dX2_sideOf_47 : decode cX2_sideOf 47 = .ok (.getfield 9, 3) := by decide +kernel
theorem dX2_sideOf_50 : decode cX2_sideOf 50 = .ok (.iload_n 1, 1) := by decide +kernel
theorem dX2_sideOf_51 : decode cX2_sideOf 51 = .ok (.iaload, 1) := by decide +kernel
theorem dX2_sideOf_52 : decode cX2_sideOf 52 = .ok (.isub, 1) := by decide +kernel
theorem dX2_sideOf_53 : decode cX2_sideOf 53 = .ok (.imul, 1) := by decide +kernel
theorem dX2_sideOf_54 : decode cX2_sideOf 54 = .ok (.invokestatic 58, 3) := by decide +kernel
theorem dX2_sideOf_57 : decode cX2_sideOf 57 = .ok (.ireturn, 1) := by decide +kernel
theorem dX3_init_0 : decode cX3_init 0 = .ok (.aload_n 0, 1) := by decide +kernel
theorem dX3_init_1 : decode cX3_init 1 = .ok (.invokespecial 3, 3) := by decide +kernel
theorem dX3_init_4 : decode cX3_init 4 = .ok (.aload_n 0, 1) := by decide +kernel
theorem dX3_init_5 : decode cX3_init 5 = .ok (.bipush 30, 2) := by decide +kernel
theorem dX3_init_7 : decode cX3_init 7 = .ok (.newarray .int, 2) := by decide +kernel
theorem dX3_init_9 : decode cX3_init 9 = .ok (.putfield 9, 3) := by decide +kernel
theorem dX3_init_12 : decode cX3_init 12 = .ok (.aload_n 0, 1) := by decide +kernel
theorem dX3_init_13 : decode cX3_init 13 = .ok (.bipush 30, 2) := by decide +kernel
theorem dX3_init_15 : decode cX3_init 15 = .ok (.newarray .int, 2) := by decide +kernel
theorem dX3_init_17 : decode cX3_init 17 = .ok (.putfield 15, 3) := by decide +kernel
theorem dX3_init_20 : decode cX3_init 20 = .ok (.aload_n 0, 1) := by decide +kernel
theorem dX3_init_21 : decode cX3_init 21 = .ok (.bipush 30, 2) := by decide +kernel
theorem dX3_init_23 : decode cX3_init 23 = .ok (.newarray .int, 2) := by decide +kernel
theorem dX3_init_25 : decode cX3_init 25 = .ok (.putfield 18, 3) := by decide +kernel
theorem dX3_init_28 : decode cX3_init 28 = .ok (.aload_n 0, 1) := by decide +kernel
theorem dX3_init_29 : decode cX3_init 29 = .ok (.bipush 30, 2) := by decide +kernel
theorem dX3_init_31 : decode cX3_init 31 = .ok (.newarray .int, 2) := by decide +kernel
theorem dX3_init_33 : decode cX3_init 33 = .ok (.putfield 21, 3) := by decide +kernel
theorem dX3_init_36 : decode cX3_init 36 = .ok (.aload_n 0, 1) := by decide +kernel
theorem dX3_init_37 : decode cX3_init 37 = .ok (.bipush 30, 2) := by decide +kernel
theorem dX3_init_39 : decode cX3_init 39 = .ok (.newarray .int, 2) := by decide +kernel
theorem dX3_init_41 : decode cX3_init 41 = .ok (.putfield 24, 3) := by decide +kernel
theorem dX3_init_44 : decode cX3_init 44 = .ok (.return_, 1) := by decide +kernel
theorem dX3_keep_0 : decode cX3_keep 0 = .ok (.aload_n 0, 1) := by decide +kernel
theorem dX3_keep_1 : decode cX3_keep 1 = .ok (.getfield 9, 3) := by decide +kernel
theorem dX3_keep_4 : decode cX3_keep 4 = .ok (.aload_n 0, 1) := by decide +kernel
theorem dX3_keep_5 : decode cX3_keep 5 = .ok (.getfield 27, 3) := by decide +kernel
theorem dX3_keep_8 : decode cX3_keep 8 = .ok (.iload_n 1, 1) := by decide +kernel
theorem dX3_keep_9 : decode cX3_keep 9 = .ok (.iastore, 1) := by decide +kernel
theorem dX3_keep_10 : decode cX3_keep 10 = .ok (.aload_n 0, 1) := by decide +kernel
theorem dX3_keep_11 : decode cX3_keep 11 = .ok (.getfield 15, 3) := by decide +kernel
theorem dX3_keep_14 : decode cX3_keep 14 = .ok (.aload_n 0, 1) := by decide +kernel
theorem dX3_keep_15 : decode cX3_keep 15 = .ok (.getfield 27, 3) := by decide +kernel
theorem dX3_keep_18 : decode cX3_keep 18 = .ok (.iload_n 2, 1) := by decide +kernel
theorem dX3_keep_19 : decode cX3_keep 19 = .ok (.iastore, 1) := by decide +kernel
theorem dX3_keep_20 : decode cX3_keep 20 = .ok (.aload_n 0, 1) := by decide +kernel
theorem dX3_keep_21 : decode cX3_keep 21 = .ok (.getfield 18, 3) := by decide +kernel
theorem dX3_keep_24 : decode cX3_keep 24 = .ok (.aload_n 0, 1) := by decide +kernel
theorem dX3_keep_25 : decode cX3_keep 25 = .ok (.getfield 27, 3) := by decide +kernel
theorem dX3_keep_28 : decode cX3_keep 28 = .ok (.iload_n 3, 1) := by decide +kernel
theorem dX3_keep_29 : decode cX3_keep 29 = .ok (.iastore, 1) := by decide +kernel
theorem dX3_keep_30 : decode cX3_keep 30 = .ok (.aload_n 0, 1) := by decide +kernel
theorem dX3_keep_31 : decode cX3_keep 31 = .ok (.getfield 21, 3) := by decide +kernel
theorem dX3_keep_34 : decode cX3_keep 34 = .ok (.aload_n 0, 1) := by decide +kernel
theorem dX3_keep_35 : decode cX3_keep 35 = .ok (.getfield 27, 3) := by decide +kernel
theorem dX3_keep_38 : decode cX3_keep 38 = .ok (.iload 4, 2) := by decide +kernel
theorem dX3_keep_40 : decode cX3_keep 40 = .ok (.iastore, 1) := by decide +kernel
theorem dX3_keep_41 : decode cX3_keep 41 = .ok (.aload_n 0, 1) := by decide +kernel
theorem dX3_keep_42 : decode cX3_keep 42 = .ok (.getfield 24, 3) := by decide +kernel
theorem dX3_keep_45 : decode cX3_keep 45 = .ok (.aload_n 0, 1) := by decide +kernel
theorem dX3_keep_46 : decode cX3_keep 46 = .ok (.getfield 27, 3) := by decide +kernel
theorem dX3_keep_49 : decode cX3_keep 49 = .ok (.iload 5, 2) := by decide +kernel
theorem dX3_keep_51 : decode cX3_keep 51 = .ok (.iastore, 1) := by decide +kernel
theorem dX3_keep_52 : decode cX3_keep 52 = .ok (.aload_n 0, 1) := by decide +kernel
theorem dX3_keep_53 : decode cX3_keep 53 = .ok (.aload_n 0, 1) := by decide +kernel
theorem dX3_keep_54 : decode cX3_keep 54 = .ok (.getfield 27, 3) := by decide +kernel
theorem dX3_keep_57 : decode cX3_keep 57 = .ok (.iconst 1, 1) := by decide +kernel
theorem dX3_keep_58 : decode cX3_keep 58 = .ok (.iadd, 1) := by decide +kernel
theorem dX3_keep_59 : decode cX3_keep 59 = .ok (.bipush 30, 2) := by decide +kernel
theorem dX3_keep_61 : decode cX3_keep 61 = .ok (.irem, 1) := by decide +kernel
theorem dX3_keep_62 : decode cX3_keep 62 = .ok (.putfield 27, 3) := by decide +kernel
theorem dX3_keep_65 : decode cX3_keep 65 = .ok (.aload_n 0, 1) := by decide +kernel
theorem dX3_keep_66 : decode cX3_keep 66 = .ok (.aload_n 0, 1) := by decide +kernel
theorem dX3_keep_67 : decode cX3_keep 67 = .ok (.getfield 31, 3) := by decide +kernel
theorem dX3_keep_70 : decode cX3_keep 70 = .ok (.iconst 1, 1) := by decide +kernel
theorem dX3_keep_71 : decode cX3_keep 71 = .ok (.iadd, 1) := by decide +kernel
theorem dX3_keep_72 : decode cX3_keep 72 = .ok (.bipush 30, 2) := by decide +kernel
theorem dX3_keep_74 : decode cX3_keep 74 = .ok (.invokestatic 34, 3) := by decide +kernel
theorem dX3_keep_77 : decode cX3_keep 77 = .ok (.putfield 31, 3) := by decide +kernel
theorem dX3_keep_80 : decode cX3_keep 80 = .ok (.return_, 1) := by decide +kernel
theorem dX3_stepBack_0 : decode cX3_stepBack 0 = .ok (.aload_n 0, 1) := by decide +kernel
theorem dX3_stepBack_1 : decode cX3_stepBack 1 = .ok (.aload_n 0, 1) := by decide +kernel
theorem dX3_stepBack_2 : decode cX3_stepBack 2 = .ok (.getfield 27, 3) := by decide +kernel
theorem dX3_stepBack_5 : decode cX3_stepBack 5 = .ok (.bipush 30, 2) := by decide +kernel
theorem dX3_stepBack_7 : decode cX3_stepBack 7 = .ok (.iadd, 1) := by decide +kernel
theorem dX3_stepBack_8 : decode cX3_stepBack 8 = .ok (.iconst 1, 1) := by decide +kernel
theorem dX3_stepBack_9 : decode cX3_stepBack 9 = .ok (.isub, 1) := by decide +kernel
theorem dX3_stepBack_10 : decode cX3_stepBack 10 = .ok (.bipush 30, 2) := by decide +kernel
theorem dX3_stepBack_12 : decode cX3_stepBack 12 = .ok (.irem, 1) := by decide +kernel
theorem dX3_stepBack_13 : decode cX3_stepBack 13 = .ok (.putfield 27, 3) := by decide +kernel
theorem dX3_stepBack_16 : decode cX3_stepBack 16 = .ok (.aload_n 0, 1) := by decide +kernel
theorem dX3_stepBack_17 : decode cX3_stepBack 17 = .ok (.dup, 1) := by decide +kernel
theorem dX3_stepBack_18 : decode cX3_stepBack 18 = .ok (.getfield 31, 3) := by decide +kernel
theorem dX3_stepBack_21 : decode cX3_stepBack 21 = .ok (.iconst 1, 1) := by decide +kernel
theorem dX3_stepBack_22 : decode cX3_stepBack 22 = .ok (.isub, 1) := by decide +kernel
theorem dX3_stepBack_23 : decode cX3_stepBack 23 = .ok (.putfield 31, 3) := by decide +kernel
theorem dX3_stepBack_26 : decode cX3_stepBack 26 = .ok (.return_, 1) := by decide +kernel
theorem dX4_init_0 : decode cX4_init 0 = .ok (.aload_n 0, 1) := by decide +kernel
theorem dX4_init_1 : decode cX4_init 1 = .ok (.invokespecial 3, 3) := by decide +kernel
theorem dX4_init_4 : decode cX4_init 4 = .ok (.aload_n 0, 1) := by decide +kernel
theorem dX4_init_5 : decode cX4_init 5 = .ok (.bipush 12, 2) := by decide +kernel
theorem dX4_init_7 : decode cX4_init 7 = .ok (.newarray .int, 2) := by decide +kernel
theorem dX4_init_9 : decode cX4_init 9 = .ok (.putfield 9, 3) := by decide +kernel
theorem dX4_init_12 : decode cX4_init 12 = .ok (.aload_n 0, 1) := by decide +kernel
theorem dX4_init_13 : decode cX4_init 13 = .ok (.bipush 12, 2) := by decide +kernel
theorem dX4_init_15 : decode cX4_init 15 = .ok (.newarray .int, 2) := by decide +kernel
theorem dX4_init_17 : decode cX4_init 17 = .ok (.putfield 15, 3) := by decide +kernel
theorem dX4_init_20 : decode cX4_init 20 = .ok (.aload_n 0, 1) := by decide +kernel
theorem dX4_init_21 : decode cX4_init 21 = .ok (.bipush 12, 2) := by decide +kernel
theorem dX4_init_23 : decode cX4_init 23 = .ok (.newarray .int, 2) := by decide +kernel
theorem dX4_init_25 : decode cX4_init 25 = .ok (.putfield 18, 3) := by decide +kernel
theorem dX4_init_28 : decode cX4_init 28 = .ok (.aload_n 0, 1) := by decide +kernel
theorem dX4_init_29 : decode cX4_init 29 = .ok (.bipush 12, 2) := by decide +kernel
theorem dX4_init_31 : decode cX4_init 31 = .ok (.newarray .int, 2) := by decide +kernel
theorem dX4_init_33 : decode cX4_init 33 = .ok (.putfield 21, 3) := by decide +kernel
theorem dX4_init_36 : decode cX4_init 36 = .ok (.return_, 1) := by decide +kernel
theorem dX4_append_0 : decode cX4_append 0 = .ok (.aload_n 0, 1) := by decide +kernel
theorem dX4_append_1 : decode cX4_append 1 = .ok (.getfield 24, 3) := by decide +kernel
theorem dX4_append_4 : decode cX4_append 4 = .ok (.istore 5, 2) := by decide +kernel
theorem dX4_append_6 : decode cX4_append 6 = .ok (.iload 5, 2) := by decide +kernel
theorem dX4_append_8 : decode cX4_append 8 = .ok (.bipush 12, 2) := by decide +kernel
theorem dX4_append_10 : decode cX4_append 10 = .ok (.if_icmp .ge 46, 3) := by decide +kernel
theorem dX4_append_13 : decode cX4_append 13 = .ok (.aload_n 0, 1) := by decide +kernel
theorem dX4_append_14 : decode cX4_append 14 = .ok (.getfield 9, 3) := by decide +kernel
theorem dX4_append_17 : decode cX4_append 17 = .ok (.iload 5, 2) := by decide +kernel
theorem dX4_append_19 : decode cX4_append 19 = .ok (.iload_n 1, 1) := by decide +kernel
theorem dX4_append_20 : decode cX4_append 20 = .ok (.iastore, 1) := by decide +kernel
theorem dX4_append_21 : decode cX4_append 21 = .ok (.aload_n 0, 1) := by decide +kernel
theorem dX4_append_22 : decode cX4_append 22 = .ok (.getfield 15, 3) := by decide +kernel
theorem dX4_append_25 : decode cX4_append 25 = .ok (.iload 5, 2) := by decide +kernel
theorem dX4_append_27 : decode cX4_append 27 = .ok (.iload_n 2, 1) := by decide +kernel
theorem dX4_append_28 : decode cX4_append 28 = .ok (.iastore, 1) := by decide +kernel
theorem dX4_append_29 : decode cX4_append 29 = .ok (.aload_n 0, 1) := by decide +kernel
theorem dX4_append_30 : decode cX4_append 30 = .ok (.getfield 18, 3) := by decide +kernel
theorem dX4_append_33 : decode cX4_append 33 = .ok (.iload 5, 2) := by decide +kernel
theorem dX4_append_35 : decode cX4_append 35 = .ok (.iload_n 3, 1) := by decide +kernel
theorem dX4_append_36 : decode cX4_append 36 = .ok (.iastore, 1) := by decide +kernel
theorem dX4_append_37 : decode cX4_append 37 = .ok (.aload_n 0, 1) := by decide +kernel
theorem dX4_append_38 : decode cX4_append 38 = .ok (.getfield 21, 3) := by decide +kernel
theorem dX4_append_41 : decode cX4_append 41 = .ok (.iload 5, 2) := by decide +kernel
theorem dX4_append_43 : decode cX4_append 43 = .ok (.iload 4, 2) := by decide +kernel
theorem dX4_append_45 : decode cX4_append 45 = .ok (.iastore, 1) := by decide +kernel
theorem dX4_append_46 : decode cX4_append 46 = .ok (.aload_n 0, 1) := by decide +kernel
theorem dX4_append_47 : decode cX4_append 47 = .ok (.dup, 1) := by decide +kernel
theorem dX4_append_48 : decode cX4_append 48 = .ok (.getfield 24, 3) := by decide +kernel
theorem dX4_append_51 : decode cX4_append 51 = .ok (.iconst 1, 1) := by decide +kernel
theorem dX4_append_52 : decode cX4_append 52 = .ok (.iadd, 1) := by decide +kernel
theorem dX4_append_53 : decode cX4_append 53 = .ok (.putfield 24, 3) := by decide +kernel
theorem dX4_append_56 : decode cX4_append 56 = .ok (.iload 5, 2) := by decide +kernel
theorem dX4_append_58 : decode cX4_append 58 = .ok (.ireturn, 1) := by decide +kernel
theorem dX5_init_0 : decode cX5_init 0 = .ok (.aload_n 0, 1) := by decide +kernel
theorem dX5_init_1 : decode cX5_init 1 = .ok (.invokespecial 3, 3) := by decide +kernel
theorem dX5_init_4 : decode cX5_init 4 = .ok (.aload_n 0, 1) := by decide +kernel
theorem dX5_init_5 : decode cX5_init 5 = .ok (.bipush 8, 2) := by decide +kernel
theorem dX5_init_7 : decode cX5_init 7 = .ok (.newarray .int, 2) := by decide +kernel
theorem dX5_init_9 : decode cX5_init 9 = .ok (.putfield 9, 3) := by decide +kernel
theorem dX5_init_12 : decode cX5_init 12 = .ok (.aload_n 0, 1) := by decide +kernel
theorem dX5_init_13 : decode cX5_init 13 = .ok (.bipush 80, 2) := by decide +kernel
theorem dX5_init_15 : decode cX5_init 15 = .ok (.newarray .int, 2) := by decide +kernel
theorem dX5_init_17 : decode cX5_init 17 = .ok (.putfield 15, 3) := by decide +kernel
theorem dX5_init_20 : decode cX5_init 20 = .ok (.aload_n 0, 1) := by decide +kernel
theorem dX5_init_21 : decode cX5_init 21 = .ok (.bipush 80, 2) := by decide +kernel
theorem dX5_init_23 : decode cX5_init 23 = .ok (.newarray .int, 2) := by decide +kernel
theorem dX5_init_25 : decode cX5_init 25 = .ok (.putfield 18, 3) := by decide +kernel
theorem dX5_init_28 : decode cX5_init 28 = .ok (.return_, 1) := by decide +kernel
theorem dX5_place_0 : decode cX5_place 0 = .ok (.iload_n 0, 1) := by decide +kernel
theorem dX5_place_1 : decode cX5_place 1 = .ok (.bipush 10, 2) := by decide +kernel
theorem dX5_place_3 : decode cX5_place 3 = .ok (.imul, 1) := by decide +kernel
theorem dX5_place_4 : decode cX5_place 4 = .ok (.iload_n 1, 1) := by decide +kernel
theorem dX5_place_5 : decode cX5_place 5 = .ok (.iadd, 1) := by decide +kernel
theorem dX5_place_6 : decode cX5_place 6 = .ok (.ireturn, 1) := by decide +kernel
theorem dX5_appendFigure_0 : decode cX5_appendFigure 0 = .ok (.aload_n 0, 1) := by decide +kernel
theorem dX5_appendFigure_1 : decode cX5_appendFigure 1 = .ok (.getfield 21, 3) := by decide +kernel
theorem dX5_appendFigure_4 : decode cX5_appendFigure 4 = .ok (.istore_n 1, 1) := by decide +kernel
theorem dX5_appendFigure_5 : decode cX5_appendFigure 5 = .ok (.iload_n 1, 1) := by decide +kernel
theorem dX5_appendFigure_6 : decode cX5_appendFigure 6 = .ok (.bipush 8, 2) := by decide +kernel
theorem dX5_appendFigure_8 : decode cX5_appendFigure 8 = .ok (.if_icmp .ge 13, 3) := by decide +kernel
theorem dX5_appendFigure_11 : decode cX5_appendFigure 11 = .ok (.aload_n 0, 1) := by decide +kernel
theorem dX5_appendFigure_12 : decode cX5_appendFigure 12 = .ok (.dup, 1) := by decide +kernel
theorem dX5_appendFigure_13 : decode cX5_appendFigure 13 = .ok (.getfield 21, 3) := by decide +kernel
theorem dX5_appendFigure_16 : decode cX5_appendFigure 16 = .ok (.iconst 1, 1) := by decide +kernel
theorem dX5_appendFigure_17 : decode cX5_appendFigure 17 = .ok (.iadd, 1) := by decide +kernel
theorem dX5_appendFigure_18 : decode cX5_appendFigure 18 = .ok (.putfield 21, 3) := by decide +kernel
theorem dX5_appendFigure_21 : decode cX5_appendFigure 21 = .ok (.iload_n 1, 1) := by decide +kernel
theorem dX5_appendFigure_22 : decode cX5_appendFigure 22 = .ok (.ireturn, 1) := by decide +kernel
theorem dX5_joins_0 : decode cX5_joins 0 = .ok (.iconst 0, 1) := by decide +kernel
theorem dX5_joins_1 : decode cX5_joins 1 = .ok (.istore 4, 2) := by decide +kernel
theorem dX5_joins_3 : decode cX5_joins 3 = .ok (.iload 4, 2) := by decide +kernel
theorem dX5_joins_5 : decode cX5_joins 5 = .ok (.aload_n 0, 1) := by decide +kernel
theorem dX5_joins_6 : decode cX5_joins 6 = .ok (.getfield 9, 3) := by decide +kernel
theorem dX5_joins_9 : decode cX5_joins 9 = .ok (.iload_n 1, 1) := by decide +kernel
theorem dX5_joins_10 : decode cX5_joins 10 = .ok (.iaload, 1) := by decide +kernel
theorem dX5_joins_11 : decode cX5_joins 11 = .ok (.if_icmp .ge 87, 3) := by decide +kernel
theorem dX5_joins_14 : decode cX5_joins 14 = .ok (.iload_n 1, 1) := by decide +kernel
theorem dX5_joins_15 : decode cX5_joins 15 = .ok (.iload 4, 2) := by decide +kernel
theorem dX5_joins_17 : decode cX5_joins 17 = .ok (.invokestatic 25, 3) := by decide +kernel
theorem dX5_joins_20 : decode cX5_joins 20 = .ok (.istore 5, 2) := by decide +kernel
theorem dX5_joins_22 : decode cX5_joins 22 = .ok (.aload_n 0, 1) := by decide +kernel
theorem dX5_joins_23 : decode cX5_joins 23 = .ok (.getfield 15, 3) := by decide +kernel
theorem dX5_joins_26 : decode cX5_joins 26 = .ok (.iload 5, 2) := by decide +kernel
theorem dX5_joins_28 : decode cX5_joins 28 = .ok (.iaload, 1) := by decide +kernel
theorem dX5_joins_29 : decode cX5_joins 29 = .ok (.iload_n 2, 1) := by decide +kernel
theorem dX5_joins_30 : decode cX5_joins 30 = .ok (.if_icmp .ne 18, 3) := by decide +kernel
theorem dX5_joins_33 : decode cX5_joins 33 = .ok (.aload_n 0, 1) := by decide +kernel
theorem dX5_joins_34 : decode cX5_joins 34 = .ok (.getfield 18, 3) := by decide +kernel
theorem dX5_joins_37 : decode cX5_joins 37 = .ok (.iload 5, 2) := by decide +kernel
theorem dX5_joins_39 : decode cX5_joins 39 = .ok (.iaload, 1) := by decide +kernel
theorem dX5_joins_40 : decode cX5_joins 40 = .ok (.iload_n 3, 1) := by decide +kernel
theorem dX5_joins_41 : decode cX5_joins 41 = .ok (.if_icmp .ne 7, 3) := by decide +kernel
theorem dX5_joins_44 : decode cX5_joins 44 = .ok (.iconst 1, 1) := by decide +kernel
theorem dX5_joins_45 : decode cX5_joins 45 = .ok (.goto 4, 3) := by decide +kernel
theorem dX5_joins_48 : decode cX5_joins 48 = .ok (.iconst 0, 1) := by decide +kernel
theorem dX5_joins_49 : decode cX5_joins 49 = .ok (.istore 6, 2) := by decide +kernel
theorem dX5_joins_51 : decode cX5_joins 51 = .ok (.aload_n 0, 1) := by decide +kernel
theorem dX5_joins_52 : decode cX5_joins 52 = .ok (.getfield 15, 3) := by decide +kernel
theorem dX5_joins_55 : decode cX5_joins 55 = .ok (.iload 5, 2) := by decide +kernel
theorem dX5_joins_57 : decode cX5_joins 57 = .ok (.iaload, 1) := by decide +kernel
theorem dX5_joins_58 : decode cX5_joins 58 = .ok (.iload_n 3, 1) := by decide +kernel
theorem dX5_joins_59 : decode cX5_joins 59 = .ok (.if_icmp .ne 18, 3) := by decide +kernel
theorem dX5_joins_62 : decode cX5_joins 62 = .ok (.aload_n 0, 1) := by decide +kernel
theorem dX5_joins_63 : decode cX5_joins 63 = .ok (.getfield 18, 3) := by decide +kernel
theorem dX5_joins_66 : decode cX5_joins 66 = .ok (.iload 5, 2) := by decide +kernel
theorem dX5_joins_68 : decode cX5_joins 68 = .ok (.iaload, 1) := by decide +kernel
theorem dX5_joins_69 : decode cX5_joins 69 = .ok (.iload_n 2, 1) := by decide +kernel
theorem dX5_joins_70 : decode cX5_joins 70 = .ok (.if_icmp .ne 7, 3) := by decide +kernel
theorem dX5_joins_73 : decode cX5_joins 73 = .ok (.iconst 1, 1) := by decide +kernel
theorem dX5_joins_74 : decode cX5_joins 74 = .ok (.goto 4, 3) := by decide +kernel
theorem dX5_joins_77 : decode cX5_joins 77 = .ok (.iconst 0, 1) := by decide +kernel
theorem dX5_joins_78 : decode cX5_joins 78 = .ok (.istore 7, 2) := by decide +kernel
theorem dX5_joins_80 : decode cX5_joins 80 = .ok (.iload 6, 2) := by decide +kernel
theorem dX5_joins_82 : decode cX5_joins 82 = .ok (.ifCond .ne 8, 3) := by decide +kernel
theorem dX5_joins_85 : decode cX5_joins 85 = .ok (.iload 7, 2) := by decide +kernel
theorem dX5_joins_87 : decode cX5_joins 87 = .ok (.ifCond .eq 5, 3) := by decide +kernel
theorem dX5_joins_90 : decode cX5_joins 90 = .ok (.iconst 1, 1) := by decide +kernel
theorem dX5_joins_91 : decode cX5_joins 91 = .ok (.ireturn, 1) := by decide +kernel
theorem dX5_joins_92 : decode cX5_joins 92 = .ok (.iinc 4 1, 3) := by decide +kernel
theorem dX5_joins_95 : decode cX5_joins 95 = .ok (.goto (-92), 3) := by decide +kernel
theorem dX5_joins_98 : decode cX5_joins 98 = .ok (.iconst 0, 1) := by decide +kernel
theorem dX5_joins_99 : decode cX5_joins 99 = .ok (.ireturn, 1) := by decide +kernel
theorem dX5_ownerOf_0 : decode cX5_ownerOf 0 = .ok (.iconst 0, 1) := by decide +kernel
theorem dX5_ownerOf_1 : decode cX5_ownerOf 1 = .ok (.istore_n 2, 1) := by decide +kernel
theorem dX5_ownerOf_2 : decode cX5_ownerOf 2 = .ok (.iload_n 2, 1) := by decide +kernel
theorem dX5_ownerOf_3 : decode cX5_ownerOf 3 = .ok (.aload_n 0, 1) := by decide +kernel
theorem dX5_ownerOf_4 : decode cX5_ownerOf 4 = .ok (.getfield 21, 3) := by decide +kernel
theorem dX5_ownerOf_7 : decode cX5_ownerOf 7 = .ok (.if_icmp .ge 20, 3) := by decide +kernel
theorem dX5_ownerOf_10 : decode cX5_ownerOf 10 = .ok (.aload_n 0, 1) := by decide +kernel
theorem dX5_ownerOf_11 : decode cX5_ownerOf 11 = .ok (.iload_n 2, 1) := by decide +kernel
theorem dX5_ownerOf_12 : decode cX5_ownerOf 12 = .ok (.iload_n 1, 1) := by decide +kernel
theorem dX5_ownerOf_13 : decode cX5_ownerOf 13 = .ok (.invokevirtual 29, 3) := by decide +kernel
theorem dX5_ownerOf_16 : decode cX5_ownerOf 16 = .ok (.ifCond .eq 5, 3) := by decide +kernel
theorem dX5_ownerOf_19 : decode cX5_ownerOf 19 = .ok (.iload_n 2, 1) := by decide +kernel
theorem dX5_ownerOf_20 : decode cX5_ownerOf 20 = .ok (.ireturn, 1) := by decide +kernel
theorem dX5_ownerOf_21 : decode cX5_ownerOf 21 = .ok (.iinc 2 1, 3) := by decide +kernel
theorem dX5_ownerOf_24 : decode cX5_ownerOf 24 = .ok (.goto (-22), 3) := by decide +kernel
theorem dX5_ownerOf_27 : decode cX5_ownerOf 27 = .ok (.iconst (-1), 1) := by decide +kernel
theorem dX5_ownerOf_28 : decode cX5_ownerOf 28 = .ok (.ireturn, 1) := by decide +kernel
theorem dX5_isOfAnother_0 : decode cX5_isOfAnother 0 = .ok (.aload_n 0, 1) := by decide +kernel
theorem dX5_isOfAnother_1 : decode cX5_isOfAnother 1 = .ok (.iload_n 2, 1) := by decide +kernel
theorem dX5_isOfAnother_2 : decode cX5_isOfAnother 2 = .ok (.invokevirtual 33, 3) := by decide +kernel
theorem dX5_isOfAnother_5 : decode cX5_isOfAnother 5 = .ok (.istore_n 3, 1) := by decide +kernel
theorem dX5_isOfAnother_6 : decode cX5_isOfAnother 6 = .ok (.iload_n 3, 1) := by decide +kernel
theorem dX5_isOfAnother_7 : decode cX5_isOfAnother 7 = .ok (.iconst (-1), 1) := by decide +kernel
theorem dX5_isOfAnother_8 : decode cX5_isOfAnother 8 = .ok (.if_icmp .eq 12, 3) := by decide +kernel
theorem dX5_isOfAnother_11 : decode cX5_isOfAnother 11 = .ok (.iload_n 3, 1) := by decide +kernel
theorem dX5_isOfAnother_12 : decode cX5_isOfAnother 12 = .ok (.iload_n 1, 1) := by decide +kernel
theorem dX5_isOfAnother_13 : decode cX5_isOfAnother 13 = .ok (.if_icmp .eq 7, 3) := by decide +kernel
theorem dX5_isOfAnother_16 : decode cX5_isOfAnother 16 = .ok (.iconst 1, 1) := by decide +kernel
theorem dX5_isOfAnother_17 : decode cX5_isOfAnother 17 = .ok (.goto 4, 3) := by decide +kernel
theorem dX5_isOfAnother_20 : decode cX5_isOfAnother 20 = .ok (.iconst 0, 1) := by decide +kernel
theorem dX5_isOfAnother_21 : decode cX5_isOfAnother 21 = .ok (.ireturn, 1) := by decide +kernel
theorem dX5_insert_0 : decode cX5_insert 0 = .ok (.aload_n 0, 1) := by decide +kernel
theorem dX5_insert_1 : decode cX5_insert 1 = .ok (.getfield 9, 3) := by decide +kernel
theorem dX5_insert_4 : decode cX5_insert 4 = .ok (.iload_n 1, 1) := by decide +kernel
theorem dX5_insert_5 : decode cX5_insert 5 = .ok (.iaload, 1) := by decide +kernel
theorem dX5_insert_6 : decode cX5_insert 6 = .ok (.istore 5, 2) := by decide +kernel
theorem dX5_insert_8 : decode cX5_insert 8 = .ok (.iload_n 2, 1) := by decide +kernel
theorem dX5_insert_9 : decode cX5_insert 9 = .ok (.ifCond .lt 16, 3) := by decide +kernel
theorem dX5_insert_12 : decode cX5_insert 12 = .ok (.iload_n 2, 1) := by decide +kernel
theorem dX5_insert_13 : decode cX5_insert 13 = .ok (.iload 5, 2) := by decide +kernel
theorem dX5_insert_15 : decode cX5_insert 15 = .ok (.if_icmp .gt 10, 3) := by decide +kernel
theorem dX5_insert_18 : decode cX5_insert 18 = .ok (.iload 5, 2) := by decide +kernel
theorem dX5_insert_20 : decode cX5_insert 20 = .ok (.bipush 10, 2) := by decide +kernel
theorem dX5_insert_22 : decode cX5_insert 22 = .ok (.if_icmp .lt 4, 3) := by decide +kernel
theorem dX5_insert_25 : decode cX5_insert 25 = .ok (.return_, 1) := by decide +kernel
theorem dX5_insert_26 : decode cX5_insert 26 = .ok (.iload_n 1, 1) := by decide +kernel
theorem dX5_insert_27 : decode cX5_insert 27 = .ok (.iload 5, 2) := by decide +kernel
theorem dX5_insert_29 : decode cX5_insert 29 = .ok (.invokestatic 25, 3) := by decide +kernel
theorem dX5_insert_32 : decode cX5_insert 32 = .ok (.istore 6, 2) := by decide +kernel
theorem dX5_insert_34 : decode cX5_insert 34 = .ok (.iload 6, 2) := by decide +kernel
theorem dX5_insert_36 : decode cX5_insert 36 = .ok (.iload_n 1, 1) := by decide +kernel
theorem dX5_insert_37 : decode cX5_insert 37 = .ok (.iload_n 2, 1) := by decide +kernel
theorem dX5_insert_38 : decode cX5_insert 38 = .ok (.invokestatic 25, 3) := by decide +kernel
theorem dX5_insert_41 : decode cX5_insert 41 = .ok (.if_icmp .le 41, 3) := by decide +kernel
theorem dX5_insert_44 : decode cX5_insert 44 = .ok (.aload_n 0, 1) := by decide +kernel
theorem dX5_insert_45 : decode cX5_insert 45 = .ok (.getfield 15, 3) := by decide +kernel
theorem dX5_insert_48 : decode cX5_insert 48 = .ok (.iload 6, 2) := by decide +kernel
theorem dX5_insert_50 : decode cX5_insert 50 = .ok (.aload_n 0, 1) := by decide +kernel
theorem dX5_insert_51 : decode cX5_insert 51 = .ok (.getfield 15, 3) := by decide +kernel
theorem dX5_insert_54 : decode cX5_insert 54 = .ok (.iload 6, 2) := by decide +kernel
theorem dX5_insert_56 : decode cX5_insert 56 = .ok (.iconst 1, 1) := by decide +kernel
theorem dX5_insert_57 : decode cX5_insert 57 = .ok (.isub, 1) := by decide +kernel
theorem dX5_insert_58 : decode cX5_insert 58 = .ok (.iaload, 1) := by decide +kernel
theorem dX5_insert_59 : decode cX5_insert 59 = .ok (.iastore, 1) := by decide +kernel
theorem dX5_insert_60 : decode cX5_insert 60 = .ok (.aload_n 0, 1) := by decide +kernel
theorem dX5_insert_61 : decode cX5_insert 61 = .ok (.getfield 18, 3) := by decide +kernel
theorem dX5_insert_64 : decode cX5_insert 64 = .ok (.iload 6, 2) := by decide +kernel
theorem dX5_insert_66 : decode cX5_insert 66 = .ok (.aload_n 0, 1) := by decide +kernel
theorem dX5_insert_67 : decode cX5_insert 67 = .ok (.getfield 18, 3) := by decide +kernel
theorem dX5_insert_70 : decode cX5_insert 70 = .ok (.iload 6, 2) := by decide +kernel
theorem dX5_insert_72 : decode cX5_insert 72 = .ok (.iconst 1, 1) := by decide +kernel
theorem dX5_insert_73 : decode cX5_insert 73 = .ok (.isub, 1) := by decide +kernel
theorem dX5_insert_74 : decode cX5_insert 74 = .ok (.iaload, 1) := by decide +kernel
theorem dX5_insert_75 : decode cX5_insert 75 = .ok (.iastore, 1) := by decide +kernel
theorem dX5_insert_76 : decode cX5_insert 76 = .ok (.iinc 6 (-1), 3) := by decide +kernel
theorem dX5_insert_79 : decode cX5_insert 79 = .ok (.goto (-45), 3) := by decide +kernel
theorem dX5_insert_82 : decode cX5_insert 82 = .ok (.aload_n 0, 1) := by decide +kernel
theorem dX5_insert_83 : decode cX5_insert 83 = .ok (.getfield 15, 3) := by decide +kernel
theorem dX5_insert_86 : decode cX5_insert 86 = .ok (.iload_n 1, 1) := by decide +kernel
theorem dX5_insert_87 : decode cX5_insert 87 = .ok (.iload_n 2, 1) := by decide +kernel
theorem dX5_insert_88 : decode cX5_insert 88 = .ok (.invokestatic 25, 3) := by decide +kernel
theorem dX5_insert_91 : decode cX5_insert 91 = .ok (.iload_n 3, 1) := by decide +kernel
theorem dX5_insert_92 : decode cX5_insert 92 = .ok (.iastore, 1) := by decide +kernel
theorem dX5_insert_93 : decode cX5_insert 93 = .ok (.aload_n 0, 1) := by decide +kernel
theorem dX5_insert_94 : decode cX5_insert 94 = .ok (.getfield 18, 3) := by decide +kernel
theorem dX5_insert_97 : decode cX5_insert 97 = .ok (.iload_n 1, 1) := by decide +kernel
theorem dX5_insert_98 : decode cX5_insert 98 = .ok (.iload_n 2, 1) := by decide +kernel
theorem dX5_insert_99 : decode cX5_insert 99 = .ok (.invokestatic 25, 3) := by decide +kernel
theorem dX5_insert_102 : decode cX5_insert 102 = .ok (.iload 4, 2) := by decide +kernel
theorem dX5_insert_104 : decode cX5_insert 104 = .ok (.iastore, 1) := by decide +kernel
theorem dX5_insert_105 : decode cX5_insert 105 = .ok (.aload_n 0, 1) := by decide +kernel
theorem dX5_insert_106 : decode cX5_insert 106 = .ok (.getfield 9, 3) := by decide +kernel
theorem dX5_insert_109 : decode cX5_insert 109 = .ok (.iload_n 1, 1) := by decide +kernel
theorem dX5_insert_110 : decode cX5_insert 110 = .ok (.iload 5, 2) := by decide +kernel
theorem dX5_insert_112 : decode cX5_insert 112 = .ok (.iconst 1, 1) := by decide +kernel
theorem dX5_insert_113 : decode cX5_insert 113 = .ok (.iadd, 1) := by decide +kernel
theorem dX5_insert_114 : decode cX5_insert 114 = .ok (.iastore, 1) := by decide +kernel
theorem dX5_insert_115 : decode cX5_insert 115 = .ok (.return_, 1) := by decide +kernel
theorem dX5_remove_0 : decode cX5_remove 0 = .ok (.aload_n 0, 1) := by decide +kernel
theorem dX5_remove_1 : decode cX5_remove 1 = .ok (.getfield 9, 3) := by decide +kernel
theorem dX5_remove_4 : decode cX5_remove 4 = .ok (.iload_n 1, 1) := by decide +kernel
theorem dX5_remove_5 : decode cX5_remove 5 = .ok (.iaload, 1) := by decide +kernel
theorem dX5_remove_6 : decode cX5_remove 6 = .ok (.istore_n 3, 1) := by decide +kernel
theorem dX5_remove_7 : decode cX5_remove 7 = .ok (.iload_n 2, 1) := by decide +kernel
theorem dX5_remove_8 : decode cX5_remove 8 = .ok (.ifCond .lt 8, 3) := by decide +kernel
theorem dX5_remove_11 : decode cX5_remove 11 = .ok (.iload_n 2, 1) := by decide +kernel
theorem dX5_remove_12 : decode cX5_remove 12 = .ok (.iload_n 3, 1) := by decide +kernel
theorem dX5_remove_13 : decode cX5_remove 13 = .ok (.if_icmp .lt 4, 3) := by decide +kernel
theorem dX5_remove_16 : decode cX5_remove 16 = .ok (.return_, 1) := by decide +kernel
theorem dX5_remove_17 : decode cX5_remove 17 = .ok (.iload_n 1, 1) := by decide +kernel
theorem dX5_remove_18 : decode cX5_remove 18 = .ok (.iload_n 2, 1) := by decide +kernel
theorem dX5_remove_19 : decode cX5_remove 19 = .ok (.invokestatic 25, 3) := by decide +kernel
theorem dX5_remove_22 : decode cX5_remove 22 = .ok (.istore 4, 2) := by decide +kernel
theorem dX5_remove_24 : decode cX5_remove 24 = .ok (.iload 4, 2) := by decide +kernel
theorem dX5_remove_26 : decode cX5_remove 26 = .ok (.iload_n 1, 1) := by decide +kernel
theorem dX5_remove_27 : decode cX5_remove 27 = .ok (.iload_n 3, 1) := by decide +kernel
theorem dX5_remove_28 : decode cX5_remove 28 = .ok (.iconst 1, 1) := by decide +kernel
theorem dX5_remove_29 : decode cX5_remove 29 = .ok (.isub, 1) := by decide +kernel
theorem dX5_remove_30 : decode cX5_remove 30 = .ok (.invokestatic 25, 3) := by decide +kernel
theorem dX5_remove_33 : decode cX5_remove 33 = .ok (.if_icmp .ge 41, 3) := by decide +kernel
theorem dX5_remove_36 : decode cX5_remove 36 = .ok (.aload_n 0, 1) := by decide +kernel
theorem dX5_remove_37 : decode cX5_remove 37 = .ok (.getfield 15, 3) := by decide +kernel
theorem dX5_remove_40 : decode cX5_remove 40 = .ok (.iload 4, 2) := by decide +kernel
theorem dX5_remove_42 : decode cX5_remove 42 = .ok (.aload_n 0, 1) := by decide +kernel
theorem dX5_remove_43 : decode cX5_remove 43 = .ok (.getfield 15, 3) := by decide +kernel
theorem dX5_remove_46 : decode cX5_remove 46 = .ok (.iload 4, 2) := by decide +kernel
theorem dX5_remove_48 : decode cX5_remove 48 = .ok (.iconst 1, 1) := by decide +kernel
theorem dX5_remove_49 : decode cX5_remove 49 = .ok (.iadd, 1) := by decide +kernel
theorem dX5_remove_50 : decode cX5_remove 50 = .ok (.iaload, 1) := by decide +kernel
theorem dX5_remove_51 : decode cX5_remove 51 = .ok (.iastore, 1) := by decide +kernel
theorem dX5_remove_52 : decode cX5_remove 52 = .ok (.aload_n 0, 1) := by decide +kernel
theorem dX5_remove_53 : decode cX5_remove 53 = .ok (.getfield 18, 3) := by decide +kernel
theorem dX5_remove_56 : decode cX5_remove 56 = .ok (.iload 4, 2) := by decide +kernel
theorem dX5_remove_58 : decode cX5_remove 58 = .ok (.aload_n 0, 1) := by decide +kernel
theorem dX5_remove_59 : decode cX5_remove 59 = .ok (.getfield 18, 3) := by decide +kernel
theorem dX5_remove_62 : decode cX5_remove 62 = .ok (.iload 4, 2) := by decide +kernel
theorem dX5_remove_64 : decode cX5_remove 64 = .ok (.iconst 1, 1) := by decide +kernel
theorem dX5_remove_65 : decode cX5_remove 65 = .ok (.iadd, 1) := by decide +kernel
theorem dX5_remove_66 : decode cX5_remove 66 = .ok (.iaload, 1) := by decide +kernel
theorem dX5_remove_67 : decode cX5_remove 67 = .ok (.iastore, 1) := by decide +kernel
theorem dX5_remove_68 : decode cX5_remove 68 = .ok (.iinc 4 1, 3) := by decide +kernel
theorem dX5_remove_71 : decode cX5_remove 71 = .ok (.goto (-47), 3) := by decide +kernel
theorem dX5_remove_74 : decode cX5_remove 74 = .ok (.aload_n 0, 1) := by decide +kernel
theorem dX5_remove_75 : decode cX5_remove 75 = .ok (.getfield 9, 3) := by decide +kernel
theorem dX5_remove_78 : decode cX5_remove 78 = .ok (.iload_n 1, 1) := by decide +kernel
theorem dX5_remove_79 : decode cX5_remove 79 = .ok (.iload_n 3, 1) := by decide +kernel
theorem dX5_remove_80 : decode cX5_remove 80 = .ok (.iconst 1, 1) := by decide +kernel
theorem dX5_remove_81 : decode cX5_remove 81 = .ok (.isub, 1) := by decide +kernel
theorem dX5_remove_82 : decode cX5_remove 82 = .ok (.iastore, 1) := by decide +kernel
theorem dX5_remove_83 : decode cX5_remove 83 = .ok (.return_, 1) := by decide +kernel
theorem dX5_hasStar_0 : decode cX5_hasStar 0 = .ok (.iconst 0, 1) := by decide +kernel
theorem dX5_hasStar_1 : decode cX5_hasStar 1 = .ok (.istore_n 3, 1) := by decide +kernel
theorem dX5_hasStar_2 : decode cX5_hasStar 2 = .ok (.iload_n 3, 1) := by decide +kernel
theorem dX5_hasStar_3 : decode cX5_hasStar 3 = .ok (.aload_n 0, 1) := by decide +kernel
theorem dX5_hasStar_4 : decode cX5_hasStar 4 = .ok (.getfield 9, 3) := by decide +kernel
theorem dX5_hasStar_7 : decode cX5_hasStar 7 = .ok (.iload_n 1, 1) := by decide +kernel
theorem dX5_hasStar_8 : decode cX5_hasStar 8 = .ok (.iaload, 1) := by decide +kernel
theorem dX5_hasStar_9 : decode cX5_hasStar 9 = .ok (.if_icmp .ge 40, 3) := by decide +kernel
theorem dX5_hasStar_12 : decode cX5_hasStar 12 = .ok (.iload_n 1, 1) := by decide +kernel
theorem dX5_hasStar_13 : decode cX5_hasStar 13 = .ok (.iload_n 3, 1) := by decide +kernel
theorem dX5_hasStar_14 : decode cX5_hasStar 14 = .ok (.invokestatic 25, 3) := by decide +kernel
theorem dX5_hasStar_17 : decode cX5_hasStar 17 = .ok (.istore 4, 2) := by decide +kernel
theorem dX5_hasStar_19 : decode cX5_hasStar 19 = .ok (.aload_n 0, 1) := by decide +kernel
theorem dX5_hasStar_20 : decode cX5_hasStar 20 = .ok (.getfield 15, 3) := by decide +kernel
theorem dX5_hasStar_23 : decode cX5_hasStar 23 = .ok (.iload 4, 2) := by decide +kernel
theorem dX5_hasStar_25 : decode cX5_hasStar 25 = .ok (.iaload, 1) := by decide +kernel
theorem dX5_hasStar_26 : decode cX5_hasStar 26 = .ok (.iload_n 2, 1) := by decide +kernel
theorem dX5_hasStar_27 : decode cX5_hasStar 27 = .ok (.if_icmp .eq 14, 3) := by decide +kernel
theorem dX5_hasStar_30 : decode cX5_hasStar 30 = .ok (.aload_n 0, 1) := by decide +kernel
theorem dX5_hasStar_31 : decode cX5_hasStar 31 = .ok (.getfield 18, 3) := by decide +kernel
theorem dX5_hasStar_34 : decode cX5_hasStar 34 = .ok (.iload 4, 2) := by decide +kernel
theorem dX5_hasStar_36 : decode cX5_hasStar 36 = .ok (.iaload, 1) := by decide +kernel
theorem dX5_hasStar_37 : decode cX5_hasStar 37 = .ok (.iload_n 2, 1) := by decide +kernel
theorem dX5_hasStar_38 : decode cX5_hasStar 38 = .ok (.if_icmp .ne 5, 3) := by decide +kernel
theorem dX5_hasStar_41 : decode cX5_hasStar 41 = .ok (.iconst 1, 1) := by decide +kernel
theorem dX5_hasStar_42 : decode cX5_hasStar 42 = .ok (.ireturn, 1) := by decide +kernel
theorem dX5_hasStar_43 : decode cX5_hasStar 43 = .ok (.iinc 3 1, 3) := by decide +kernel
theorem dX5_hasStar_46 : decode cX5_hasStar 46 = .ok (.goto (-44), 3) := by decide +kernel
theorem dX5_hasStar_49 : decode cX5_hasStar 49 = .ok (.iconst 0, 1) := by decide +kernel
theorem dX5_hasStar_50 : decode cX5_hasStar 50 = .ok (.ireturn, 1) := by decide +kernel
theorem dX6_init_0 : decode cX6_init 0 = .ok (.aload_n 0, 1) := by decide +kernel
theorem dX6_init_1 : decode cX6_init 1 = .ok (.invokespecial 3, 3) := by decide +kernel
theorem dX6_init_4 : decode cX6_init 4 = .ok (.aload_n 0, 1) := by decide +kernel
theorem dX6_init_5 : decode cX6_init 5 = .ok (.new 9, 3) := by decide +kernel
theorem dX6_init_8 : decode cX6_init 8 = .ok (.dup, 1) := by decide +kernel
theorem dX6_init_9 : decode cX6_init 9 = .ok (.invokespecial 11, 3) := by decide +kernel
theorem dX6_init_12 : decode cX6_init 12 = .ok (.putfield 12, 3) := by decide +kernel
theorem dX6_init_15 : decode cX6_init 15 = .ok (.aload_n 0, 1) := by decide +kernel
theorem dX6_init_16 : decode cX6_init 16 = .ok (.new 16, 3) := by decide +kernel
theorem dX6_init_19 : decode cX6_init 19 = .ok (.dup, 1) := by decide +kernel
theorem dX6_init_20 : decode cX6_init 20 = .ok (.invokespecial 18, 3) := by decide +kernel
theorem dX6_init_23 : decode cX6_init 23 = .ok (.putfield 19, 3) := by decide +kernel
theorem dX6_init_26 : decode cX6_init 26 = .ok (.aload_n 0, 1) := by decide +kernel
theorem dX6_init_27 : decode cX6_init 27 = .ok (.new 23, 3) := by decide +kernel
theorem dX6_init_30 : decode cX6_init 30 = .ok (.dup, 1) := by decide +kernel
theorem dX6_init_31 : decode cX6_init 31 = .ok (.invokespecial 25, 3) := by decide +kernel
theorem dX6_init_34 : decode cX6_init 34 = .ok (.putfield 26, 3) := by decide +kernel
theorem dX6_init_37 : decode cX6_init 37 = .ok (.aload_n 0, 1) := by decide +kernel
theorem dX6_init_38 : decode cX6_init 38 = .ok (.new 30, 3) := by decide +kernel
theorem dX6_init_41 : decode cX6_init 41 = .ok (.dup, 1) := by decide +kernel
theorem dX6_init_42 : decode cX6_init 42 = .ok (.invokespecial 32, 3) := by decide +kernel
theorem dX6_init_45 : decode cX6_init 45 = .ok (.putfield 33, 3) := by decide +kernel
theorem dX6_init_48 : decode cX6_init 48 = .ok (.aload_n 0, 1) := by decide +kernel
theorem dX6_init_49 : decode cX6_init 49 = .ok (.new 37, 3) := by decide +kernel
theorem dX6_init_52 : decode cX6_init 52 = .ok (.dup, 1) := by decide +kernel
theorem dX6_init_53 : decode cX6_init 53 = .ok (.invokespecial 39, 3) := by decide +kernel
theorem dX6_init_56 : decode cX6_init 56 = .ok (.putfield 40, 3) := by decide +kernel
theorem dX6_init_59 : decode cX6_init 59 = .ok (.return_, 1) := by decide +kernel
theorem dX6_addStar_0 : decode cX6_addStar 0 = .ok (.iload_n 1, 1) := by decide +kernel
theorem dX6_addStar_1 : decode cX6_addStar 1 = .ok (.iload_n 2, 1) := by decide +kernel
theorem dX6_addStar_2 : decode cX6_addStar 2 = .ok (.invokestatic 44, 3) := by decide +kernel
theorem dX6_addStar_5 : decode cX6_addStar 5 = .ok (.aload_n 0, 1) := by decide +kernel
theorem dX6_addStar_6 : decode cX6_addStar 6 = .ok (.getfield 12, 3) := by decide +kernel
theorem dX6_addStar_9 : decode cX6_addStar 9 = .ok (.getfield 48, 3) := by decide +kernel
theorem dX6_addStar_12 : decode cX6_addStar 12 = .ok (.bipush 24, 2) := by decide +kernel
theorem dX6_addStar_14 : decode cX6_addStar 14 = .ok (.if_icmp .lt 13, 3) := by decide +kernel
theorem dX6_addStar_17 : decode cX6_addStar 17 = .ok (.new 52, 3) := by decide +kernel
theorem dX6_addStar_20 : decode cX6_addStar 20 = .ok (.dup, 1) := by decide +kernel
theorem dX6_addStar_21 : decode cX6_addStar 21 = .ok (.ldc 54, 2) := by decide +kernel
theorem dX6_addStar_23 : decode cX6_addStar 23 = .ok (.invokespecial 56, 3) := by decide +kernel
theorem dX6_addStar_26 : decode cX6_addStar 26 = .ok (.athrow, 1) := by decide +kernel
theorem dX6_addStar_27 : decode cX6_addStar 27 = .ok (.aload_n 0, 1) := by decide +kernel
theorem dX6_addStar_28 : decode cX6_addStar 28 = .ok (.getfield 12, 3) := by decide +kernel
theorem dX6_addStar_31 : decode cX6_addStar 31 = .ok (.iload_n 1, 1) := by decide +kernel
theorem dX6_addStar_32 : decode cX6_addStar 32 = .ok (.iload_n 2, 1) := by decide +kernel
theorem dX6_addStar_33 : decode cX6_addStar 33 = .ok (.invokevirtual 59, 3) := by decide +kernel
theorem dX6_addStar_36 : decode cX6_addStar 36 = .ok (.ireturn, 1) := by decide +kernel
theorem dX6_correct_0 : decode cX6_correct 0 = .ok (.aload_n 0, 1) := by decide +kernel
theorem dX6_correct_1 : decode cX6_correct 1 = .ok (.iload_n 1, 1) := by decide +kernel
theorem dX6_correct_2 : decode cX6_correct 2 = .ok (.invokevirtual 63, 3) := by decide +kernel
theorem dX6_correct_5 : decode cX6_correct 5 = .ok (.iload_n 2, 1) := by decide +kernel
theorem dX6_correct_6 : decode cX6_correct 6 = .ok (.iload_n 3, 1) := by decide +kernel
theorem dX6_correct_7 : decode cX6_correct 7 = .ok (.invokestatic 44, 3) := by decide +kernel
theorem dX6_correct_10 : decode cX6_correct 10 = .ok (.aload_n 0, 1) := by decide +kernel
theorem dX6_correct_11 : decode cX6_correct 11 = .ok (.getfield 40, 3) := by decide +kernel
theorem dX6_correct_14 : decode cX6_correct 14 = .ok (.iconst 0, 1) := by decide +kernel
theorem dX6_correct_15 : decode cX6_correct 15 = .ok (.iload_n 1, 1) := by decide +kernel
theorem dX6_correct_16 : decode cX6_correct 16 = .ok (.iconst 0, 1) := by decide +kernel
theorem dX6_correct_17 : decode cX6_correct 17 = .ok (.aload_n 0, 1) := by decide +kernel
theorem dX6_correct_18 : decode cX6_correct 18 = .ok (.getfield 12, 3) := by decide +kernel
theorem dX6_correct_21 : decode cX6_correct 21 = .ok (.getfield 67, 3) := by decide +kernel
theorem dX6_correct_24 : decode cX6_correct 24 = .ok (.iload_n 1, 1) := by decide +kernel
theorem dX6_correct_25 : decode cX6_correct 25 = .ok (.iaload, 1) := by decide +kernel
theorem dX6_correct_26 : decode cX6_correct 26 = .ok (.aload_n 0, 1) := by decide +kernel
theorem dX6_correct_27 : decode cX6_correct 27 = .ok (.getfield 12, 3) := by decide +kernel
theorem dX6_correct_30 : decode cX6_correct 30 = .ok (.getfield 71, 3) := by decide +kernel
theorem dX6_correct_33 : decode cX6_correct 33 = .ok (.iload_n 1, 1) := by decide +kernel
theorem dX6_correct_34 : decode cX6_correct 34 = .ok (.iaload, 1) := by decide +kernel
theorem dX6_correct_35 : decode cX6_correct 35 = .ok (.invokevirtual 74, 3) := by decide +kernel
theorem dX6_correct_38 : decode cX6_correct 38 = .ok (.aload_n 0, 1) := by decide +kernel
theorem dX6_correct_39 : decode cX6_correct 39 = .ok (.getfield 12, 3) := by decide +kernel
theorem dX6_correct_42 : decode cX6_correct 42 = .ok (.iload_n 1, 1) := by decide +kernel
theorem dX6_correct_43 : decode cX6_correct 43 = .ok (.iload_n 2, 1) := by decide +kernel
theorem dX6_correct_44 : decode cX6_correct 44 = .ok (.iload_n 3, 1) := by decide +kernel
theorem dX6_correct_45 : decode cX6_correct 45 = .ok (.invokevirtual 78, 3) := by decide +kernel
theorem dX6_correct_48 : decode cX6_correct 48 = .ok (.aload_n 0, 1) := by decide +kernel
theorem dX6_correct_49 : decode cX6_correct 49 = .ok (.invokevirtual 82, 3) := by decide +kernel
theorem dX6_correct_52 : decode cX6_correct 52 = .ok (.ireturn, 1) := by decide +kernel
theorem dX6_addFigure_0 : decode cX6_addFigure 0 = .ok (.aload_n 0, 1) := by decide +kernel
theorem dX6_addFigure_1 : decode cX6_addFigure 1 = .ok (.getfield 19, 3) := by decide +kernel
theorem dX6_addFigure_4 : decode cX6_addFigure 4 = .ok (.getfield 86, 3) := by decide +kernel
theorem dX6_addFigure_7 : decode cX6_addFigure 7 = .ok (.bipush 8, 2) := by decide +kernel
theorem dX6_addFigure_9 : decode cX6_addFigure 9 = .ok (.if_icmp .lt 13, 3) := by decide +kernel
theorem dX6_addFigure_12 : decode cX6_addFigure 12 = .ok (.new 52, 3) := by decide +kernel
theorem dX6_addFigure_15 : decode cX6_addFigure 15 = .ok (.dup, 1) := by decide +kernel
theorem dX6_addFigure_16 : decode cX6_addFigure 16 = .ok (.ldc 89, 2) := by decide +kernel
theorem dX6_addFigure_18 : decode cX6_addFigure 18 = .ok (.invokespecial 56, 3) := by decide +kernel
theorem dX6_addFigure_21 : decode cX6_addFigure 21 = .ok (.athrow, 1) := by decide +kernel
theorem dX6_addFigure_22 : decode cX6_addFigure 22 = .ok (.aload_n 0, 1) := by decide +kernel
theorem dX6_addFigure_23 : decode cX6_addFigure 23 = .ok (.getfield 19, 3) := by decide +kernel
theorem dX6_addFigure_26 : decode cX6_addFigure 26 = .ok (.invokevirtual 91, 3) := by decide +kernel
theorem dX6_addFigure_29 : decode cX6_addFigure 29 = .ok (.ireturn, 1) := by decide +kernel
theorem dX6_draw_0 : decode cX6_draw 0 = .ok (.aload_n 0, 1) := by decide +kernel
theorem dX6_draw_1 : decode cX6_draw 1 = .ok (.iload_n 1, 1) := by decide +kernel
theorem dX6_draw_2 : decode cX6_draw 2 = .ok (.invokevirtual 94, 3) := by decide +kernel
theorem dX6_draw_5 : decode cX6_draw 5 = .ok (.aload_n 0, 1) := by decide +kernel
theorem dX6_draw_6 : decode cX6_draw 6 = .ok (.iload_n 2, 1) := by decide +kernel
theorem dX6_draw_7 : decode cX6_draw 7 = .ok (.invokevirtual 63, 3) := by decide +kernel
theorem dX6_draw_10 : decode cX6_draw 10 = .ok (.aload_n 0, 1) := by decide +kernel
theorem dX6_draw_11 : decode cX6_draw 11 = .ok (.iload_n 3, 1) := by decide +kernel
theorem dX6_draw_12 : decode cX6_draw 12 = .ok (.invokevirtual 63, 3) := by decide +kernel
theorem dX6_draw_15 : decode cX6_draw 15 = .ok (.iload_n 2, 1) := by decide +kernel
theorem dX6_draw_16 : decode cX6_draw 16 = .ok (.iload_n 3, 1) := by decide +kernel
theorem dX6_draw_17 : decode cX6_draw 17 = .ok (.if_icmp .ne 13, 3) := by decide +kernel
theorem dX6_draw_20 : decode cX6_draw 20 = .ok (.new 97, 3) := by decide +kernel
theorem dX6_draw_23 : decode cX6_draw 23 = .ok (.dup, 1) := by decide +kernel
theorem dX6_draw_24 : decode cX6_draw 24 = .ok (.ldc 99, 2) := by decide +kernel
theorem dX6_draw_26 : decode cX6_draw 26 = .ok (.invokespecial 101, 3) := by decide +kernel
theorem dX6_draw_29 : decode cX6_draw 29 = .ok (.athrow, 1) := by decide +kernel
theorem dX6_draw_30 : decode cX6_draw 30 = .ok (.aload_n 0, 1) := by decide +kernel
theorem dX6_draw_31 : decode cX6_draw 31 = .ok (.getfield 19, 3) := by decide +kernel
theorem dX6_draw_34 : decode cX6_draw 34 = .ok (.getfield 102, 3) := by decide +kernel
theorem dX6_draw_37 : decode cX6_draw 37 = .ok (.iload_n 1, 1) := by decide +kernel
theorem dX6_draw_38 : decode cX6_draw 38 = .ok (.iaload, 1) := by decide +kernel
theorem dX6_draw_39 : decode cX6_draw 39 = .ok (.istore 4, 2) := by decide +kernel
theorem dX6_draw_41 : decode cX6_draw 41 = .ok (.iload 4, 2) := by decide +kernel
theorem dX6_draw_43 : decode cX6_draw 43 = .ok (.bipush 10, 2) := by decide +kernel
theorem dX6_draw_45 : decode cX6_draw 45 = .ok (.if_icmp .lt 13, 3) := by decide +kernel
theorem dX6_draw_48 : decode cX6_draw 48 = .ok (.new 52, 3) := by decide +kernel
theorem dX6_draw_51 : decode cX6_draw 51 = .ok (.dup, 1) := by decide +kernel
theorem dX6_draw_52 : decode cX6_draw 52 = .ok (.ldc 105, 2) := by decide +kernel
theorem dX6_draw_54 : decode cX6_draw 54 = .ok (.invokespecial 56, 3) := by decide +kernel
theorem dX6_draw_57 : decode cX6_draw 57 = .ok (.athrow, 1) := by decide +kernel
theorem dX6_draw_58 : decode cX6_draw 58 = .ok (.aload_n 0, 1) := by decide +kernel
theorem dX6_draw_59 : decode cX6_draw 59 = .ok (.getfield 19, 3) := by decide +kernel
theorem dX6_draw_62 : decode cX6_draw 62 = .ok (.iload_n 1, 1) := by decide +kernel
theorem dX6_draw_63 : decode cX6_draw 63 = .ok (.iload_n 2, 1) := by decide +kernel
theorem dX6_draw_64 : decode cX6_draw 64 = .ok (.iload_n 3, 1) := by decide +kernel
theorem dX6_draw_65 : decode cX6_draw 65 = .ok (.invokevirtual 107, 3) := by decide +kernel
theorem dX6_draw_68 : decode cX6_draw 68 = .ok (.ifCond .eq 13, 3) := by decide +kernel
theorem dX6_draw_71 : decode cX6_draw 71 = .ok (.new 52, 3) := by decide +kernel
theorem dX6_draw_74 : decode cX6_draw 74 = .ok (.dup, 1) := by decide +kernel
theorem dX6_draw_75 : decode cX6_draw 75 = .ok (.ldc 111, 2) := by decide +kernel
theorem dX6_draw_77 : decode cX6_draw 77 = .ok (.invokespecial 56, 3) := by decide +kernel
theorem dX6_draw_80 : decode cX6_draw 80 = .ok (.athrow, 1) := by decide +kernel
theorem dX6_draw_81 : decode cX6_draw 81 = .ok (.aload_n 0, 1) := by decide +kernel
theorem dX6_draw_82 : decode cX6_draw 82 = .ok (.getfield 19, 3) := by decide +kernel
theorem dX6_draw_85 : decode cX6_draw 85 = .ok (.iload_n 1, 1) := by decide +kernel
theorem dX6_draw_86 : decode cX6_draw 86 = .ok (.iload_n 2, 1) := by decide +kernel
theorem dX6_draw_87 : decode cX6_draw 87 = .ok (.invokevirtual 113, 3) := by decide +kernel
theorem dX6_draw_90 : decode cX6_draw 90 = .ok (.ifCond .ne 15, 3) := by decide +kernel
theorem dX6_draw_93 : decode cX6_draw 93 = .ok (.aload_n 0, 1) := by decide +kernel
theorem dX6_draw_94 : decode cX6_draw 94 = .ok (.getfield 19, 3) := by decide +kernel
theorem dX6_draw_97 : decode cX6_draw 97 = .ok (.iload_n 1, 1) := by decide +kernel
theorem dX6_draw_98 : decode cX6_draw 98 = .ok (.iload_n 3, 1) := by decide +kernel
theorem dX6_draw_99 : decode cX6_draw 99 = .ok (.invokevirtual 113, 3) := by decide +kernel
theorem dX6_draw_102 : decode cX6_draw 102 = .ok (.ifCond .eq 13, 3) := by decide +kernel
theorem dX6_draw_105 : decode cX6_draw 105 = .ok (.new 52, 3) := by decide +kernel
theorem dX6_draw_108 : decode cX6_draw 108 = .ok (.dup, 1) := by decide +kernel
theorem dX6_draw_109 : decode cX6_draw 109 = .ok (.ldc 117, 2) := by decide +kernel
theorem dX6_draw_111 : decode cX6_draw 111 = .ok (.invokespecial 56, 3) := by decide +kernel
theorem dX6_draw_114 : decode cX6_draw 114 = .ok (.athrow, 1) := by decide +kernel
theorem dX6_draw_115 : decode cX6_draw 115 = .ok (.aload_n 0, 1) := by decide +kernel
theorem dX6_draw_116 : decode cX6_draw 116 = .ok (.getfield 40, 3) := by decide +kernel
theorem dX6_draw_119 : decode cX6_draw 119 = .ok (.iconst 1, 1) := by decide +kernel
theorem dX6_draw_120 : decode cX6_draw 120 = .ok (.iload_n 1, 1) := by decide +kernel
theorem dX6_draw_121 : decode cX6_draw 121 = .ok (.iload 4, 2) := by decide +kernel
theorem dX6_draw_123 : decode cX6_draw 123 = .ok (.iload_n 2, 1) := by decide +kernel
theorem dX6_draw_124 : decode cX6_draw 124 = .ok (.iload_n 3, 1) := by decide +kernel
theorem dX6_draw_125 : decode cX6_draw 125 = .ok (.invokevirtual 74, 3) := by decide +kernel
theorem dX6_draw_128 : decode cX6_draw 128 = .ok (.aload_n 0, 1) := by decide +kernel
theorem dX6_draw_129 : decode cX6_draw 129 = .ok (.getfield 19, 3) := by decide +kernel
theorem dX6_draw_132 : decode cX6_draw 132 = .ok (.iload_n 1, 1) := by decide +kernel
theorem dX6_draw_133 : decode cX6_draw 133 = .ok (.iload 4, 2) := by decide +kernel
theorem dX6_draw_135 : decode cX6_draw 135 = .ok (.iload_n 2, 1) := by decide +kernel
theorem dX6_draw_136 : decode cX6_draw 136 = .ok (.iload_n 3, 1) := by decide +kernel
theorem dX6_draw_137 : decode cX6_draw 137 = .ok (.invokevirtual 119, 3) := by decide +kernel
theorem dX6_draw_140 : decode cX6_draw 140 = .ok (.iload 4, 2) := by decide +kernel
theorem dX6_draw_142 : decode cX6_draw 142 = .ok (.ireturn, 1) := by decide +kernel
theorem dX6_erase_0 : decode cX6_erase 0 = .ok (.aload_n 0, 1) := by decide +kernel
theorem dX6_erase_1 : decode cX6_erase 1 = .ok (.iload_n 1, 1) := by decide +kernel
theorem dX6_erase_2 : decode cX6_erase 2 = .ok (.invokevirtual 94, 3) := by decide +kernel
theorem dX6_erase_5 : decode cX6_erase 5 = .ok (.iload_n 2, 1) := by decide +kernel
theorem dX6_erase_6 : decode cX6_erase 6 = .ok (.ifCond .lt 16, 3) := by decide +kernel
theorem dX6_erase_9 : decode cX6_erase 9 = .ok (.iload_n 2, 1) := by decide +kernel
theorem dX6_erase_10 : decode cX6_erase 10 = .ok (.aload_n 0, 1) := by decide +kernel
theorem dX6_erase_11 : decode cX6_erase 11 = .ok (.getfield 19, 3) := by decide +kernel
theorem dX6_erase_14 : decode cX6_erase 14 = .ok (.getfield 102, 3) := by decide +kernel
theorem dX6_erase_17 : decode cX6_erase 17 = .ok (.iload_n 1, 1) := by decide +kernel
theorem dX6_erase_18 : decode cX6_erase 18 = .ok (.iaload, 1) := by decide +kernel
theorem dX6_erase_19 : decode cX6_erase 19 = .ok (.if_icmp .lt 13, 3) := by decide +kernel
theorem dX6_erase_22 : decode cX6_erase 22 = .ok (.new 123, 3) := by decide +kernel
theorem dX6_erase_25 : decode cX6_erase 25 = .ok (.dup, 1) := by decide +kernel
theorem dX6_erase_26 : decode cX6_erase 26 = .ok (.ldc 125, 2) := by decide +kernel
theorem dX6_erase_28 : decode cX6_erase 28 = .ok (.invokespecial 127, 3) := by decide +kernel
theorem dX6_erase_31 : decode cX6_erase 31 = .ok (.athrow, 1) := by decide +kernel
theorem dX6_erase_32 : decode cX6_erase 32 = .ok (.iload_n 1, 1) := by decide +kernel
theorem dX6_erase_33 : decode cX6_erase 33 = .ok (.iload_n 2, 1) := by decide +kernel
theorem dX6_erase_34 : decode cX6_erase 34 = .ok (.invokestatic 128, 3) := by decide +kernel
theorem dX6_erase_37 : decode cX6_erase 37 = .ok (.istore_n 3, 1) := by decide +kernel
theorem dX6_erase_38 : decode cX6_erase 38 = .ok (.aload_n 0, 1) := by decide +kernel
theorem dX6_erase_39 : decode cX6_erase 39 = .ok (.getfield 40, 3) := by decide +kernel
theorem dX6_erase_42 : decode cX6_erase 42 = .ok (.iconst 2, 1) := by decide +kernel
theorem dX6_erase_43 : decode cX6_erase 43 = .ok (.iload_n 1, 1) := by decide +kernel
theorem dX6_erase_44 : decode cX6_erase 44 = .ok (.iload_n 2, 1) := by decide +kernel
theorem dX6_erase_45 : decode cX6_erase 45 = .ok (.aload_n 0, 1) := by decide +kernel
theorem dX6_erase_46 : decode cX6_erase 46 = .ok (.getfield 19, 3) := by decide +kernel
theorem dX6_erase_49 : decode cX6_erase 49 = .ok (.getfield 131, 3) := by decide +kernel
theorem dX6_erase_52 : decode cX6_erase 52 = .ok (.iload_n 3, 1) := by decide +kernel
theorem dX6_erase_53 : decode cX6_erase 53 = .ok (.iaload, 1) := by decide +kernel
theorem dX6_erase_54 : decode cX6_erase 54 = .ok (.aload_n 0, 1) := by decide +kernel
theorem dX6_erase_55 : decode cX6_erase 55 = .ok (.getfield 19, 3) := by decide +kernel
theorem dX6_erase_58 : decode cX6_erase 58 = .ok (.getfield 134, 3) := by decide +kernel
theorem dX6_erase_61 : decode cX6_erase 61 = .ok (.iload_n 3, 1) := by decide +kernel
theorem dX6_erase_62 : decode cX6_erase 62 = .ok (.iaload, 1) := by decide +kernel
theorem dX6_erase_63 : decode cX6_erase 63 = .ok (.invokevirtual 74, 3) := by decide +kernel
theorem dX6_erase_66 : decode cX6_erase 66 = .ok (.aload_n 0, 1) := by decide +kernel
theorem dX6_erase_67 : decode cX6_erase 67 = .ok (.getfield 19, 3) := by decide +kernel
theorem dX6_erase_70 : decode cX6_erase 70 = .ok (.iload_n 1, 1) := by decide +kernel
theorem dX6_erase_71 : decode cX6_erase 71 = .ok (.iload_n 2, 1) := by decide +kernel
theorem dX6_erase_72 : decode cX6_erase 72 = .ok (.invokevirtual 137, 3) := by decide +kernel
theorem dX6_erase_75 : decode cX6_erase 75 = .ok (.aload_n 0, 1) := by decide +kernel
theorem dX6_erase_76 : decode cX6_erase 76 = .ok (.getfield 19, 3) := by decide +kernel
theorem dX6_erase_79 : decode cX6_erase 79 = .ok (.getfield 102, 3) := by decide +kernel
theorem dX6_erase_82 : decode cX6_erase 82 = .ok (.iload_n 1, 1) := by decide +kernel
theorem dX6_erase_83 : decode cX6_erase 83 = .ok (.iaload, 1) := by decide +kernel
theorem dX6_erase_84 : decode cX6_erase 84 = .ok (.ireturn, 1) := by decide +kernel
theorem dX6_undo_0 : decode cX6_undo 0 = .ok (.aload_n 0, 1) := by decide +kernel
theorem dX6_undo_1 : decode cX6_undo 1 = .ok (.getfield 40, 3) := by decide +kernel
theorem dX6_undo_4 : decode cX6_undo 4 = .ok (.getfield 140, 3) := by decide +kernel
theorem dX6_undo_7 : decode cX6_undo 7 = .ok (.ifCond .gt 13, 3) := by decide +kernel
theorem dX6_undo_10 : decode cX6_undo 10 = .ok (.new 52, 3) := by decide +kernel
theorem dX6_undo_13 : decode cX6_undo 13 = .ok (.dup, 1) := by decide +kernel
theorem dX6_undo_14 : decode cX6_undo 14 = .ok (.ldc 143, 2) := by decide +kernel
theorem dX6_undo_16 : decode cX6_undo 16 = .ok (.invokespecial 56, 3) := by decide +kernel
theorem dX6_undo_19 : decode cX6_undo 19 = .ok (.athrow, 1) := by decide +kernel
theorem dX6_undo_20 : decode cX6_undo 20 = .ok (.aload_n 0, 1) := by decide +kernel
theorem dX6_undo_21 : decode cX6_undo 21 = .ok (.getfield 40, 3) := by decide +kernel
theorem dX6_undo_24 : decode cX6_undo 24 = .ok (.invokevirtual 145, 3) := by decide +kernel
theorem dX6_undo_27 : decode cX6_undo 27 = .ok (.aload_n 0, 1) := by decide +kernel
theorem dX6_undo_28 : decode cX6_undo 28 = .ok (.aload_n 0, 1) := by decide +kernel
theorem dX6_undo_29 : decode cX6_undo 29 = .ok (.getfield 40, 3) := by decide +kernel
theorem dX6_undo_32 : decode cX6_undo 32 = .ok (.getfield 148, 3) := by decide +kernel
theorem dX6_undo_35 : decode cX6_undo 35 = .ok (.invokevirtual 151, 3) := by decide +kernel
theorem dX6_undo_38 : decode cX6_undo 38 = .ok (.aload_n 0, 1) := by decide +kernel
theorem dX6_undo_39 : decode cX6_undo 39 = .ok (.getfield 40, 3) := by decide +kernel
theorem dX6_undo_42 : decode cX6_undo 42 = .ok (.getfield 140, 3) := by decide +kernel
theorem dX6_undo_45 : decode cX6_undo 45 = .ok (.ireturn, 1) := by decide +kernel
theorem dX6_stars_0 : decode cX6_stars 0 = .ok (.aload_n 0, 1) := by decide +kernel
theorem dX6_stars_1 : decode cX6_stars 1 = .ok (.getfield 12, 3) := by decide +kernel
theorem dX6_stars_4 : decode cX6_stars 4 = .ok (.getfield 48, 3) := by decide +kernel
theorem dX6_stars_7 : decode cX6_stars 7 = .ok (.ireturn, 1) := by decide +kernel
theorem dX6_figures_0 : decode cX6_figures 0 = .ok (.aload_n 0, 1) := by decide +kernel
theorem dX6_figures_1 : decode cX6_figures 1 = .ok (.getfield 19, 3) := by decide +kernel
theorem dX6_figures_4 : decode cX6_figures 4 = .ok (.getfield 86, 3) := by decide +kernel
theorem dX6_figures_7 : decode cX6_figures 7 = .ok (.ireturn, 1) := by decide +kernel
theorem dX6_lines_0 : decode cX6_lines 0 = .ok (.aload_n 0, 1) := by decide +kernel
theorem dX6_lines_1 : decode cX6_lines 1 = .ok (.iload_n 1, 1) := by decide +kernel
theorem dX6_lines_2 : decode cX6_lines 2 = .ok (.invokevirtual 94, 3) := by decide +kernel
theorem dX6_lines_5 : decode cX6_lines 5 = .ok (.aload_n 0, 1) := by decide +kernel
theorem dX6_lines_6 : decode cX6_lines 6 = .ok (.getfield 19, 3) := by decide +kernel
theorem dX6_lines_9 : decode cX6_lines 9 = .ok (.getfield 102, 3) := by decide +kernel
theorem dX6_lines_12 : decode cX6_lines 12 = .ok (.iload_n 1, 1) := by decide +kernel
theorem dX6_lines_13 : decode cX6_lines 13 = .ok (.iaload, 1) := by decide +kernel
theorem dX6_lines_14 : decode cX6_lines 14 = .ok (.ireturn, 1) := by decide +kernel
theorem dX6_placeOf_0 : decode cX6_placeOf 0 = .ok (.aload_n 0, 1) := by decide +kernel
theorem dX6_placeOf_1 : decode cX6_placeOf 1 = .ok (.iload_n 1, 1) := by decide +kernel
theorem dX6_placeOf_2 : decode cX6_placeOf 2 = .ok (.invokevirtual 63, 3) := by decide +kernel
theorem dX6_placeOf_5 : decode cX6_placeOf 5 = .ok (.sipush 1000, 3) := by decide +kernel
theorem dX6_placeOf_8 : decode cX6_placeOf 8 = .ok (.aload_n 0, 1) := by decide +kernel
theorem dX6_placeOf_9 : decode cX6_placeOf 9 = .ok (.getfield 12, 3) := by decide +kernel
theorem dX6_placeOf_12 : decode cX6_placeOf 12 = .ok (.getfield 67, 3) := by decide +kernel
theorem dX6_placeOf_15 : decode cX6_placeOf 15 = .ok (.iload_n 1, 1) := by decide +kernel
theorem dX6_placeOf_16 : decode cX6_placeOf 16 = .ok (.iaload, 1) := by decide +kernel
theorem dX6_placeOf_17 : decode cX6_placeOf 17 = .ok (.imul, 1) := by decide +kernel
theorem dX6_placeOf_18 : decode cX6_placeOf 18 = .ok (.aload_n 0, 1) := by decide +kernel
theorem dX6_placeOf_19 : decode cX6_placeOf 19 = .ok (.getfield 12, 3) := by decide +kernel
theorem dX6_placeOf_22 : decode cX6_placeOf 22 = .ok (.getfield 71, 3) := by decide +kernel
theorem dX6_placeOf_25 : decode cX6_placeOf 25 = .ok (.iload_n 1, 1) := by decide +kernel
theorem dX6_placeOf_26 : decode cX6_placeOf 26 = .ok (.iaload, 1) := by decide +kernel
theorem dX6_placeOf_27 : decode cX6_placeOf 27 = .ok (.iadd, 1) := by decide +kernel
theorem dX6_placeOf_28 : decode cX6_placeOf 28 = .ok (.bipush 90, 2) := by decide +kernel
theorem dX6_placeOf_30 : decode cX6_placeOf 30 = .ok (.iadd, 1) := by decide +kernel
theorem dX6_placeOf_31 : decode cX6_placeOf 31 = .ok (.ireturn, 1) := by decide +kernel
theorem dX6_figureOf_0 : decode cX6_figureOf 0 = .ok (.aload_n 0, 1) := by decide +kernel
theorem dX6_figureOf_1 : decode cX6_figureOf 1 = .ok (.iload_n 1, 1) := by decide +kernel
theorem dX6_figureOf_2 : decode cX6_figureOf 2 = .ok (.invokevirtual 63, 3) := by decide +kernel
theorem dX6_figureOf_5 : decode cX6_figureOf 5 = .ok (.aload_n 0, 1) := by decide +kernel
theorem dX6_figureOf_6 : decode cX6_figureOf 6 = .ok (.getfield 19, 3) := by decide +kernel
theorem dX6_figureOf_9 : decode cX6_figureOf 9 = .ok (.iload_n 1, 1) := by decide +kernel
theorem dX6_figureOf_10 : decode cX6_figureOf 10 = .ok (.invokevirtual 154, 3) := by decide +kernel
theorem dX6_figureOf_13 : decode cX6_figureOf 13 = .ok (.ireturn, 1) := by decide +kernel
theorem dX6_crossings_0 : decode cX6_crossings 0 = .ok (.aload_n 0, 1) := by decide +kernel
theorem dX6_crossings_1 : decode cX6_crossings 1 = .ok (.iload_n 1, 1) := by decide +kernel
theorem dX6_crossings_2 : decode cX6_crossings 2 = .ok (.invokevirtual 94, 3) := by decide +kernel
theorem dX6_crossings_5 : decode cX6_crossings 5 = .ok (.aload_n 0, 1) := by decide +kernel
theorem dX6_crossings_6 : decode cX6_crossings 6 = .ok (.iload_n 2, 1) := by decide +kernel
theorem dX6_crossings_7 : decode cX6_crossings 7 = .ok (.invokevirtual 94, 3) := by decide +kernel
theorem dX6_crossings_10 : decode cX6_crossings 10 = .ok (.iconst 0, 1) := by decide +kernel
theorem dX6_crossings_11 : decode cX6_crossings 11 = .ok (.istore_n 3, 1) := by decide +kernel
theorem dX6_crossings_12 : decode cX6_crossings 12 = .ok (.iconst 0, 1) := by decide +kernel
theorem dX6_crossings_13 : decode cX6_crossings 13 = .ok (.istore 4, 2) := by decide +kernel
theorem dX6_crossings_15 : decode cX6_crossings 15 = .ok (.iload 4, 2) := by decide +kernel
theorem dX6_crossings_17 : decode cX6_crossings 17 = .ok (.aload_n 0, 1) := by decide +kernel
theorem dX6_crossings_18 : decode cX6_crossings 18 = .ok (.getfield 19, 3) := by decide +kernel
theorem dX6_crossings_21 : decode cX6_crossings 21 = .ok (.getfield 102, 3) := by decide +kernel
theorem dX6_crossings_24 : decode cX6_crossings 24 = .ok (.iload_n 1, 1) := by decide +kernel
theorem dX6_crossings_25 : decode cX6_crossings 25 = .ok (.iaload, 1) := by decide +kernel
theorem dX6_crossings_26 : decode cX6_crossings 26 = .ok (.if_icmp .ge 70, 3) := by decide +kernel
theorem dX6_crossings_29 : decode cX6_crossings 29 = .ok (.iload_n 1, 1) := by decide +kernel
theorem dX6_crossings_30 : decode cX6_crossings 30 = .ok (.iload_n 2, 1) := by decide +kernel
theorem dX6_crossings_31 : decode cX6_crossings 31 = .ok (.if_icmp .ne 10, 3) := by decide +kernel
theorem dX6_crossings_34 : decode cX6_crossings 34 = .ok (.iload 4, 2) := by decide +kernel
theorem dX6_crossings_36 : decode cX6_crossings 36 = .ok (.iconst 1, 1) := by decide +kernel
theorem dX6_crossings_37 : decode cX6_crossings 37 = .ok (.iadd, 1) := by decide +kernel
theorem dX6_crossings_38 : decode cX6_crossings 38 = .ok (.goto 4, 3) := by decide +kernel
theorem dX6_crossings_41 : decode cX6_crossings 41 = .ok (.iconst 0, 1) := by decide +kernel
theorem dX6_crossings_42 : decode cX6_crossings 42 = .ok (.istore 5, 2) := by decide +kernel
theorem dX6_crossings_44 : decode cX6_crossings 44 = .ok (.iload 5, 2) := by decide +kernel
theorem dX6_crossings_46 : decode cX6_crossings 46 = .ok (.istore 6, 2) := by decide +kernel
theorem dX6_crossings_48 : decode cX6_crossings 48 = .ok (.iload 6, 2) := by decide +kernel
theorem dX6_crossings_50 : decode cX6_crossings 50 = .ok (.aload_n 0, 1) := by decide +kernel
theorem dX6_crossings_51 : decode cX6_crossings 51 = .ok (.getfield 19, 3) := by decide +kernel
theorem dX6_crossings_54 : decode cX6_crossings 54 = .ok (.getfield 102, 3) := by decide +kernel
theorem dX6_crossings_57 : decode cX6_crossings 57 = .ok (.iload_n 2, 1) := by decide +kernel
theorem dX6_crossings_58 : decode cX6_crossings 58 = .ok (.iaload, 1) := by decide +kernel
theorem dX6_crossings_59 : decode cX6_crossings 59 = .ok (.if_icmp .ge 31, 3) := by decide +kernel
theorem dX6_crossings_62 : decode cX6_crossings 62 = .ok (.aload_n 0, 1) := by decide +kernel
theorem dX6_crossings_63 : decode cX6_crossings 63 = .ok (.iload_n 1, 1) := by decide +kernel
theorem dX6_crossings_64 : decode cX6_crossings 64 = .ok (.iload 4, 2) := by decide +kernel
theorem dX6_crossings_66 : decode cX6_crossings 66 = .ok (.invokestatic 128, 3) := by decide +kernel
theorem dX6_crossings_69 : decode cX6_crossings 69 = .ok (.iload_n 2, 1) := by decide +kernel
theorem dX6_crossings_70 : decode cX6_crossings 70 = .ok (.iload 6, 2) := by decide +kernel
theorem dX6_crossings_72 : decode cX6_crossings 72 = .ok (.invokestatic 128, 3) := by decide +kernel
theorem dX6_crossings_75 : decode cX6_crossings 75 = .ok (.invokevirtual 158, 3) := by decide +kernel
theorem dX6_crossings_78 : decode cX6_crossings 78 = .ok (.ifCond .eq 6, 3) := by decide +kernel
theorem dX6_crossings_81 : decode cX6_crossings 81 = .ok (.iinc 3 1, 3) := by decide +kernel
theorem dX6_crossings_84 : decode cX6_crossings 84 = .ok (.iinc 6 1, 3) := by decide +kernel
theorem dX6_crossings_87 : decode cX6_crossings 87 = .ok (.goto (-39), 3) := by decide +kernel
theorem dX6_crossings_90 : decode cX6_crossings 90 = .ok (.iinc 4 1, 3) := by decide +kernel
theorem dX6_crossings_93 : decode cX6_crossings 93 = .ok (.goto (-78), 3) := by decide +kernel
theorem dX6_crossings_96 : decode cX6_crossings 96 = .ok (.iload_n 3, 1) := by decide +kernel
theorem dX6_crossings_97 : decode cX6_crossings 97 = .ok (.ireturn, 1) := by decide +kernel
theorem dX6_vote_0 : decode cX6_vote 0 = .ok (.iload_n 1, 1) := by decide +kernel
theorem dX6_vote_1 : decode cX6_vote 1 = .ok (.ifCond .lt 9, 3) := by decide +kernel
theorem dX6_vote_4 : decode cX6_vote 4 = .ok (.iload_n 1, 1) := by decide +kernel
theorem dX6_vote_5 : decode cX6_vote 5 = .ok (.bipush 6, 2) := by decide +kernel
theorem dX6_vote_7 : decode cX6_vote 7 = .ok (.if_icmp .lt 13, 3) := by decide +kernel
theorem dX6_vote_10 : decode cX6_vote 10 = .ok (.new 123, 3) := by decide +kernel
theorem dX6_vote_13 : decode cX6_vote 13 = .ok (.dup, 1) := by decide +kernel
theorem dX6_vote_14 : decode cX6_vote 14 = .ok (.ldc 161, 2) := by decide +kernel
theorem dX6_vote_16 : decode cX6_vote 16 = .ok (.invokespecial 127, 3) := by decide +kernel
theorem dX6_vote_19 : decode cX6_vote 19 = .ok (.athrow, 1) := by decide +kernel
theorem dX6_vote_20 : decode cX6_vote 20 = .ok (.aload_n 0, 1) := by decide +kernel
theorem dX6_vote_21 : decode cX6_vote 21 = .ok (.iload_n 2, 1) := by decide +kernel
theorem dX6_vote_22 : decode cX6_vote 22 = .ok (.invokevirtual 94, 3) := by decide +kernel
theorem dX6_vote_25 : decode cX6_vote 25 = .ok (.iload_n 3, 1) := by decide +kernel
theorem dX6_vote_26 : decode cX6_vote 26 = .ok (.iconst (-1), 1) := by decide +kernel
theorem dX6_vote_27 : decode cX6_vote 27 = .ok (.if_icmp .eq 7, 3) := by decide +kernel
theorem dX6_vote_30 : decode cX6_vote 30 = .ok (.iload_n 3, 1) := by decide +kernel
theorem dX6_vote_31 : decode cX6_vote 31 = .ok (.invokestatic 163, 3) := by decide +kernel
theorem dX6_vote_34 : decode cX6_vote 34 = .ok (.aload_n 0, 1) := by decide +kernel
theorem dX6_vote_35 : decode cX6_vote 35 = .ok (.getfield 26, 3) := by decide +kernel
theorem dX6_vote_38 : decode cX6_vote 38 = .ok (.iload_n 1, 1) := by decide +kernel
theorem dX6_vote_39 : decode cX6_vote 39 = .ok (.iload_n 2, 1) := by decide +kernel
theorem dX6_vote_40 : decode cX6_vote 40 = .ok (.iload_n 3, 1) := by decide +kernel
theorem dX6_vote_41 : decode cX6_vote 41 = .ok (.invokevirtual 166, 3) := by decide +kernel
theorem dX6_vote_44 : decode cX6_vote 44 = .ok (.ireturn, 1) := by decide +kernel
theorem dX6_votes_0 : decode cX6_votes 0 = .ok (.aload_n 0, 1) := by decide +kernel
theorem dX6_votes_1 : decode cX6_votes 1 = .ok (.iload_n 1, 1) := by decide +kernel
theorem dX6_votes_2 : decode cX6_votes 2 = .ok (.invokevirtual 94, 3) := by decide +kernel
theorem dX6_votes_5 : decode cX6_votes 5 = .ok (.iload_n 2, 1) := by decide +kernel
theorem dX6_votes_6 : decode cX6_votes 6 = .ok (.invokestatic 163, 3) := by decide +kernel
theorem dX6_votes_9 : decode cX6_votes 9 = .ok (.aload_n 0, 1) := by decide +kernel
theorem dX6_votes_10 : decode cX6_votes 10 = .ok (.getfield 26, 3) := by decide +kernel
theorem dX6_votes_13 : decode cX6_votes 13 = .ok (.getfield 170, 3) := by decide +kernel
theorem dX6_votes_16 : decode cX6_votes 16 = .ok (.iload_n 1, 1) := by decide +kernel
theorem dX6_votes_17 : decode cX6_votes 17 = .ok (.bipush 10, 2) := by decide +kernel
theorem dX6_votes_19 : decode cX6_votes 19 = .ok (.imul, 1) := by decide +kernel
theorem dX6_votes_20 : decode cX6_votes 20 = .ok (.iload_n 2, 1) := by decide +kernel
theorem dX6_votes_21 : decode cX6_votes 21 = .ok (.iadd, 1) := by decide +kernel
theorem dX6_votes_22 : decode cX6_votes 22 = .ok (.iaload, 1) := by decide +kernel
theorem dX6_votes_23 : decode cX6_votes 23 = .ok (.ireturn, 1) := by decide +kernel
theorem dX6_nameOf_0 : decode cX6_nameOf 0 = .ok (.aload_n 0, 1) := by decide +kernel
theorem dX6_nameOf_1 : decode cX6_nameOf 1 = .ok (.iload_n 1, 1) := by decide +kernel
theorem dX6_nameOf_2 : decode cX6_nameOf 2 = .ok (.invokevirtual 94, 3) := by decide +kernel
theorem dX6_nameOf_5 : decode cX6_nameOf 5 = .ok (.aload_n 0, 1) := by decide +kernel
theorem dX6_nameOf_6 : decode cX6_nameOf 6 = .ok (.getfield 26, 3) := by decide +kernel
theorem dX6_nameOf_9 : decode cX6_nameOf 9 = .ok (.getfield 173, 3) := by decide +kernel
theorem dX6_nameOf_12 : decode cX6_nameOf 12 = .ok (.iload_n 1, 1) := by decide +kernel
theorem dX6_nameOf_13 : decode cX6_nameOf 13 = .ok (.iaload, 1) := by decide +kernel
theorem dX6_nameOf_14 : decode cX6_nameOf 14 = .ok (.ireturn, 1) := by decide +kernel
theorem dX6_height_0 : decode cX6_height 0 = .ok (.aload_n 0, 1) := by decide +kernel
theorem dX6_height_1 : decode cX6_height 1 = .ok (.iload_n 1, 1) := by decide +kernel
theorem dX6_height_2 : decode cX6_height 2 = .ok (.invokevirtual 63, 3) := by decide +kernel
theorem dX6_height_5 : decode cX6_height 5 = .ok (.iload_n 2, 1) := by decide +kernel
theorem dX6_height_6 : decode cX6_height 6 = .ok (.invokestatic 176, 3) := by decide +kernel
theorem dX6_height_9 : decode cX6_height 9 = .ok (.iload_n 3, 1) := by decide +kernel
theorem dX6_height_10 : decode cX6_height 10 = .ok (.invokestatic 179, 3) := by decide +kernel
theorem dX6_height_13 : decode cX6_height 13 = .ok (.iload 4, 2) := by decide +kernel
theorem dX6_height_15 : decode cX6_height 15 = .ok (.invokestatic 182, 3) := by decide +kernel
theorem dX6_height_18 : decode cX6_height 18 = .ok (.aload_n 0, 1) := by decide +kernel
theorem dX6_height_19 : decode cX6_height 19 = .ok (.getfield 12, 3) := by decide +kernel
theorem dX6_height_22 : decode cX6_height 22 = .ok (.iload_n 1, 1) := by decide +kernel
theorem dX6_height_23 : decode cX6_height 23 = .ok (.iload_n 2, 1) := by decide +kernel
theorem dX6_height_24 : decode cX6_height 24 = .ok (.iload_n 3, 1) := by decide +kernel
theorem dX6_height_25 : decode cX6_height 25 = .ok (.iload 4, 2) := by decide +kernel
theorem dX6_height_27 : decode cX6_height 27 = .ok (.invokestatic 185, 3) := by decide +kernel
theorem dX6_height_30 : decode cX6_height 30 = .ok (.invokevirtual 188, 3) := by decide +kernel
theorem dX6_height_33 : decode cX6_height 33 = .ok (.ireturn, 1) := by decide +kernel
theorem dX6_isUp_0 : decode cX6_isUp 0 = .ok (.aload_n 0, 1) := by decide +kernel
theorem dX6_isUp_1 : decode cX6_isUp 1 = .ok (.iload_n 1, 1) := by decide +kernel
theorem dX6_isUp_2 : decode cX6_isUp 2 = .ok (.invokevirtual 94, 3) := by decide +kernel
theorem dX6_isUp_5 : decode cX6_isUp 5 = .ok (.iload_n 2, 1) := by decide +kernel
theorem dX6_isUp_6 : decode cX6_isUp 6 = .ok (.invokestatic 176, 3) := by decide +kernel
theorem dX6_isUp_9 : decode cX6_isUp 9 = .ok (.iload_n 3, 1) := by decide +kernel
theorem dX6_isUp_10 : decode cX6_isUp 10 = .ok (.invokestatic 179, 3) := by decide +kernel
theorem dX6_isUp_13 : decode cX6_isUp 13 = .ok (.iload 4, 2) := by decide +kernel
theorem dX6_isUp_15 : decode cX6_isUp 15 = .ok (.invokestatic 182, 3) := by decide +kernel
theorem dX6_isUp_18 : decode cX6_isUp 18 = .ok (.aload_n 0, 1) := by decide +kernel
theorem dX6_isUp_19 : decode cX6_isUp 19 = .ok (.iload_n 1, 1) := by decide +kernel
theorem dX6_isUp_20 : decode cX6_isUp 20 = .ok (.iload_n 2, 1) := by decide +kernel
theorem dX6_isUp_21 : decode cX6_isUp 21 = .ok (.iload_n 3, 1) := by decide +kernel
theorem dX6_isUp_22 : decode cX6_isUp 22 = .ok (.iload 4, 2) := by decide +kernel
theorem dX6_isUp_24 : decode cX6_isUp 24 = .ok (.invokestatic 185, 3) := by decide +kernel
theorem dX6_isUp_27 : decode cX6_isUp 27 = .ok (.invokevirtual 191, 3) := by decide +kernel
theorem dX6_isUp_30 : decode cX6_isUp 30 = .ok (.ireturn, 1) := by decide +kernel
theorem dX6_hours_0 : decode cX6_hours 0 = .ok (.aload_n 0, 1) := by decide +kernel
theorem dX6_hours_1 : decode cX6_hours 1 = .ok (.iload_n 1, 1) := by decide +kernel
theorem dX6_hours_2 : decode cX6_hours 2 = .ok (.invokevirtual 94, 3) := by decide +kernel
theorem dX6_hours_5 : decode cX6_hours 5 = .ok (.iload_n 2, 1) := by decide +kernel
theorem dX6_hours_6 : decode cX6_hours 6 = .ok (.invokestatic 176, 3) := by decide +kernel
theorem dX6_hours_9 : decode cX6_hours 9 = .ok (.iload_n 3, 1) := by decide +kernel
theorem dX6_hours_10 : decode cX6_hours 10 = .ok (.invokestatic 179, 3) := by decide +kernel
theorem dX6_hours_13 : decode cX6_hours 13 = .ok (.iconst 0, 1) := by decide +kernel
theorem dX6_hours_14 : decode cX6_hours 14 = .ok (.istore 4, 2) := by decide +kernel
theorem dX6_hours_16 : decode cX6_hours 16 = .ok (.iconst 0, 1) := by decide +kernel
theorem dX6_hours_17 : decode cX6_hours 17 = .ok (.istore 5, 2) := by decide +kernel
theorem dX6_hours_19 : decode cX6_hours 19 = .ok (.iload 5, 2) := by decide +kernel
theorem dX6_hours_21 : decode cX6_hours 21 = .ok (.bipush 24, 2) := by decide +kernel
theorem dX6_hours_23 : decode cX6_hours 23 = .ok (.if_icmp .ge 33, 3) := by decide +kernel
theorem dX6_hours_26 : decode cX6_hours 26 = .ok (.aload_n 0, 1) := by decide +kernel
theorem dX6_hours_27 : decode cX6_hours 27 = .ok (.iload_n 1, 1) := by decide +kernel
theorem dX6_hours_28 : decode cX6_hours 28 = .ok (.iload_n 2, 1) := by decide +kernel
theorem dX6_hours_29 : decode cX6_hours 29 = .ok (.iload_n 3, 1) := by decide +kernel
theorem dX6_hours_30 : decode cX6_hours 30 = .ok (.iload 5, 2) := by decide +kernel
theorem dX6_hours_32 : decode cX6_hours 32 = .ok (.invokestatic 185, 3) := by decide +kernel
theorem dX6_hours_35 : decode cX6_hours 35 = .ok (.invokevirtual 191, 3) := by decide +kernel
theorem dX6_hours_38 : decode cX6_hours 38 = .ok (.ifCond .eq 12, 3) := by decide +kernel
theorem dX6_hours_41 : decode cX6_hours 41 = .ok (.iload 4, 2) := by decide +kernel
theorem dX6_hours_43 : decode cX6_hours 43 = .ok (.iconst 1, 1) := by decide +kernel
theorem dX6_hours_44 : decode cX6_hours 44 = .ok (.iload 5, 2) := by decide +kernel
theorem dX6_hours_46 : decode cX6_hours 46 = .ok (.ishl, 1) := by decide +kernel
theorem dX6_hours_47 : decode cX6_hours 47 = .ok (.ior, 1) := by decide +kernel
theorem dX6_hours_48 : decode cX6_hours 48 = .ok (.istore 4, 2) := by decide +kernel
theorem dX6_hours_50 : decode cX6_hours 50 = .ok (.iinc 5 1, 3) := by decide +kernel
theorem dX6_hours_53 : decode cX6_hours 53 = .ok (.goto (-34), 3) := by decide +kernel
theorem dX6_hours_56 : decode cX6_hours 56 = .ok (.iload 4, 2) := by decide +kernel
theorem dX6_hours_58 : decode cX6_hours 58 = .ok (.ireturn, 1) := by decide +kernel
theorem dX6_hoursByStars_0 : decode cX6_hoursByStars 0 = .ok (.aload_n 0, 1) := by decide +kernel
theorem dX6_hoursByStars_1 : decode cX6_hoursByStars 1 = .ok (.iload_n 1, 1) := by decide +kernel
theorem dX6_hoursByStars_2 : decode cX6_hoursByStars 2 = .ok (.invokevirtual 94, 3) := by decide +kernel
theorem dX6_hoursByStars_5 : decode cX6_hoursByStars 5 = .ok (.iload_n 2, 1) := by decide +kernel
theorem dX6_hoursByStars_6 : decode cX6_hoursByStars 6 = .ok (.invokestatic 176, 3) := by decide +kernel
theorem dX6_hoursByStars_9 : decode cX6_hoursByStars 9 = .ok (.iload_n 3, 1) := by decide +kernel
theorem dX6_hoursByStars_10 : decode cX6_hoursByStars 10 = .ok (.invokestatic 179, 3) := by decide +kernel
theorem dX6_hoursByStars_13 : decode cX6_hoursByStars 13 = .ok (.aload_n 0, 1) := by decide +kernel
theorem dX6_hoursByStars_14 : decode cX6_hoursByStars 14 = .ok (.getfield 19, 3) := by decide +kernel
theorem dX6_hoursByStars_17 : decode cX6_hoursByStars 17 = .ok (.getfield 102, 3) := by decide +kernel
theorem dX6_hoursByStars_20 : decode cX6_hoursByStars 20 = .ok (.iload_n 1, 1) := by decide +kernel
theorem dX6_hoursByStars_21 : decode cX6_hoursByStars 21 = .ok (.iaload, 1) := by decide +kernel
theorem dX6_hoursByStars_22 : decode cX6_hoursByStars 22 = .ok (.istore 4, 2) := by decide +kernel
theorem dX6_hoursByStars_24 : decode cX6_hoursByStars 24 = .ok (.iload 4, 2) := by decide +kernel
theorem dX6_hoursByStars_26 : decode cX6_hoursByStars 26 = .ok (.ifCond .ne 7, 3) := by decide +kernel
theorem dX6_hoursByStars_29 : decode cX6_hoursByStars 29 = .ok (.iconst 0, 1) := by decide +kernel
theorem dX6_hoursByStars_30 : decode cX6_hoursByStars 30 = .ok (.goto 5, 3) := by decide +kernel
theorem dX6_hoursByStars_33 : decode cX6_hoursByStars 33 = .ok (.ldc 194, 2) := by decide +kernel
theorem dX6_hoursByStars_35 : decode cX6_hoursByStars 35 = .ok (.istore 5, 2) := by decide +kernel
theorem dX6_hoursByStars_37 : decode cX6_hoursByStars 37 = .ok (.iconst 0, 1) := by decide +kernel
theorem dX6_hoursByStars_38 : decode cX6_hoursByStars 38 = .ok (.istore 6, 2) := by decide +kernel
theorem dX6_hoursByStars_40 : decode cX6_hoursByStars 40 = .ok (.iload 6, 2) := by decide +kernel
theorem dX6_hoursByStars_42 : decode cX6_hoursByStars 42 = .ok (.iload 4, 2) := by decide +kernel
theorem dX6_hoursByStars_44 : decode cX6_hoursByStars 44 = .ok (.if_icmp .ge 59, 3) := by decide +kernel
theorem dX6_hoursByStars_47 : decode cX6_hoursByStars 47 = .ok (.iload_n 1, 1) := by decide +kernel
theorem dX6_hoursByStars_48 : decode cX6_hoursByStars 48 = .ok (.iload 6, 2) := by decide +kernel
theorem dX6_hoursByStars_50 : decode cX6_hoursByStars 50 = .ok (.invokestatic 128, 3) := by decide +kernel
theorem dX6_hoursByStars_53 : decode cX6_hoursByStars 53 = .ok (.istore 7, 2) := by decide +kernel
theorem dX6_hoursByStars_55 : decode cX6_hoursByStars 55 = .ok (.iload 5, 2) := by decide +kernel
theorem dX6_hoursByStars_57 : decode cX6_hoursByStars 57 = .ok (.aload_n 0, 1) := by decide +kernel
theorem dX6_hoursByStars_58 : decode cX6_hoursByStars 58 = .ok (.aload_n 0, 1) := by decide +kernel
theorem dX6_hoursByStars_59 : decode cX6_hoursByStars 59 = .ok (.getfield 19, 3) := by decide +kernel
theorem dX6_hoursByStars_62 : decode cX6_hoursByStars 62 = .ok (.getfield 131, 3) := by decide +kernel
theorem dX6_hoursByStars_65 : decode cX6_hoursByStars 65 = .ok (.iload 7, 2) := by decide +kernel
theorem dX6_hoursByStars_67 : decode cX6_hoursByStars 67 = .ok (.iaload, 1) := by decide +kernel
theorem dX6_hoursByStars_68 : decode cX6_hoursByStars 68 = .ok (.iload_n 2, 1) := by decide +kernel
theorem dX6_hoursByStars_69 : decode cX6_hoursByStars 69 = .ok (.iload_n 3, 1) := by decide +kernel
theorem dX6_hoursByStars_70 : decode cX6_hoursByStars 70 = .ok (.invokevirtual 195, 3) := by decide +kernel
theorem dX6_hoursByStars_73 : decode cX6_hoursByStars 73 = .ok (.iand, 1) := by decide +kernel
theorem dX6_hoursByStars_74 : decode cX6_hoursByStars 74 = .ok (.istore 5, 2) := by decide +kernel
theorem dX6_hoursByStars_76 : decode cX6_hoursByStars 76 = .ok (.iload 5, 2) := by decide +kernel
theorem dX6_hoursByStars_78 : decode cX6_hoursByStars 78 = .ok (.aload_n 0, 1) := by decide +kernel
theorem dX6_hoursByStars_79 : decode cX6_hoursByStars 79 = .ok (.aload_n 0, 1) := by decide +kernel
theorem dX6_hoursByStars_80 : decode cX6_hoursByStars 80 = .ok (.getfield 19, 3) := by decide +kernel
theorem dX6_hoursByStars_83 : decode cX6_hoursByStars 83 = .ok (.getfield 134, 3) := by decide +kernel
theorem dX6_hoursByStars_86 : decode cX6_hoursByStars 86 = .ok (.iload 7, 2) := by decide +kernel
theorem dX6_hoursByStars_88 : decode cX6_hoursByStars 88 = .ok (.iaload, 1) := by decide +kernel
theorem dX6_hoursByStars_89 : decode cX6_hoursByStars 89 = .ok (.iload_n 2, 1) := by decide +kernel
theorem dX6_hoursByStars_90 : decode cX6_hoursByStars 90 = .ok (.iload_n 3, 1) := by decide +kernel
theorem dX6_hoursByStars_91 : decode cX6_hoursByStars 91 = .ok (.invokevirtual 195, 3) := by decide +kernel
theorem dX6_hoursByStars_94 : decode cX6_hoursByStars 94 = .ok (.iand, 1) := by decide +kernel
theorem dX6_hoursByStars_95 : decode cX6_hoursByStars 95 = .ok (.istore 5, 2) := by decide +kernel
theorem dX6_hoursByStars_97 : decode cX6_hoursByStars 97 = .ok (.iinc 6 1, 3) := by decide +kernel
theorem dX6_hoursByStars_100 : decode cX6_hoursByStars 100 = .ok (.goto (-60), 3) := by decide +kernel
theorem dX6_hoursByStars_103 : decode cX6_hoursByStars 103 = .ok (.iload 5, 2) := by decide +kernel
theorem dX6_hoursByStars_105 : decode cX6_hoursByStars 105 = .ok (.ireturn, 1) := by decide +kernel
end
section
theorem dX6_bestHour_0 : decode cX6_bestHour 0 = .ok (.aload_n 0, 1) := by decide +kernel
theorem dX6_bestHour_1 : decode cX6_bestHour 1 = .ok (.iload_n 1, 1) := by decide +kernel
theorem dX6_bestHour_2 : decode cX6_bestHour 2 = .ok (.invokevirtual 94, 3) := by decide +kernel
theorem dX6_bestHour_5 : decode cX6_bestHour 5 = .ok (.iload_n 2, 1) := by decide +kernel
theorem dX6_bestHour_6 : decode cX6_bestHour 6 = .ok (.invokestatic 176, 3) := by decide +kernel
theorem dX6_bestHour_9 : decode cX6_bestHour 9 = .ok (.iload_n 3, 1) := by decide +kernel
theorem dX6_bestHour_10 : decode cX6_bestHour 10 = .ok (.invokestatic 179, 3) := by decide +kernel
theorem dX6_bestHour_13 : decode cX6_bestHour 13 = .ok (.iconst (-1), 1) := by decide +kernel
theorem dX6_bestHour_14 : decode cX6_bestHour 14 = .ok (.istore 4, 2) := by decide +kernel
theorem dX6_bestHour_16 : decode cX6_bestHour 16 = .ok (.iconst 0, 1) := by decide +kernel
theorem dX6_bestHour_17 : decode cX6_bestHour 17 = .ok (.istore 5, 2) := by decide +kernel
theorem dX6_bestHour_19 : decode cX6_bestHour 19 = .ok (.iconst 0, 1) := by decide +kernel
theorem dX6_bestHour_20 : decode cX6_bestHour 20 = .ok (.istore 6, 2) := by decide +kernel
theorem dX6_bestHour_22 : decode cX6_bestHour 22 = .ok (.iload 6, 2) := by decide +kernel
theorem dX6_bestHour_24 : decode cX6_bestHour 24 = .ok (.bipush 24, 2) := by decide +kernel
theorem dX6_bestHour_26 : decode cX6_bestHour 26 = .ok (.if_icmp .ge 38, 3) := by decide +kernel
theorem dX6_bestHour_29 : decode cX6_bestHour 29 = .ok (.aload_n 0, 1) := by decide +kernel
theorem dX6_bestHour_30 : decode cX6_bestHour 30 = .ok (.iload_n 1, 1) := by decide +kernel
theorem dX6_bestHour_31 : decode cX6_bestHour 31 = .ok (.iload_n 2, 1) := by decide +kernel
theorem dX6_bestHour_32 : decode cX6_bestHour 32 = .ok (.iload_n 3, 1) := by decide +kernel
theorem dX6_bestHour_33 : decode cX6_bestHour 33 = .ok (.iload 6, 2) := by decide +kernel
theorem dX6_bestHour_35 : decode cX6_bestHour 35 = .ok (.invokestatic 185, 3) := by decide +kernel
theorem dX6_bestHour_38 : decode cX6_bestHour 38 = .ok (.invokevirtual 198, 3) := by decide +kernel
theorem dX6_bestHour_41 : decode cX6_bestHour 41 = .ok (.istore 7, 2) := by decide +kernel
theorem dX6_bestHour_43 : decode cX6_bestHour 43 = .ok (.iload 7, 2) := by decide +kernel
theorem dX6_bestHour_45 : decode cX6_bestHour 45 = .ok (.iload 5, 2) := by decide +kernel
theorem dX6_bestHour_47 : decode cX6_bestHour 47 = .ok (.if_icmp .le 11, 3) := by decide +kernel
theorem dX6_bestHour_50 : decode cX6_bestHour 50 = .ok (.iload 6, 2) := by decide +kernel
theorem dX6_bestHour_52 : decode cX6_bestHour 52 = .ok (.istore 4, 2) := by decide +kernel
theorem dX6_bestHour_54 : decode cX6_bestHour 54 = .ok (.iload 7, 2) := by decide +kernel
theorem dX6_bestHour_56 : decode cX6_bestHour 56 = .ok (.istore 5, 2) := by decide +kernel
theorem dX6_bestHour_58 : decode cX6_bestHour 58 = .ok (.iinc 6 1, 3) := by decide +kernel
theorem dX6_bestHour_61 : decode cX6_bestHour 61 = .ok (.goto (-39), 3) := by decide +kernel
theorem dX6_bestHour_64 : decode cX6_bestHour 64 = .ok (.iload 4, 2) := by decide +kernel
theorem dX6_bestHour_66 : decode cX6_bestHour 66 = .ok (.ireturn, 1) := by decide +kernel
theorem dX6_plan_0 : decode cX6_plan 0 = .ok (.aload_n 0, 1) := by decide +kernel
theorem dX6_plan_1 : decode cX6_plan 1 = .ok (.iload_n 1, 1) := by decide +kernel
theorem dX6_plan_2 : decode cX6_plan 2 = .ok (.invokevirtual 94, 3) := by decide +kernel
theorem dX6_plan_5 : decode cX6_plan 5 = .ok (.iload_n 2, 1) := by decide +kernel
theorem dX6_plan_6 : decode cX6_plan 6 = .ok (.invokestatic 176, 3) := by decide +kernel
theorem dX6_plan_9 : decode cX6_plan 9 = .ok (.iload_n 3, 1) := by decide +kernel
theorem dX6_plan_10 : decode cX6_plan 10 = .ok (.invokestatic 179, 3) := by decide +kernel
theorem dX6_plan_13 : decode cX6_plan 13 = .ok (.iload 4, 2) := by decide +kernel
theorem dX6_plan_15 : decode cX6_plan 15 = .ok (.invokestatic 182, 3) := by decide +kernel
theorem dX6_plan_18 : decode cX6_plan 18 = .ok (.iload_n 3, 1) := by decide +kernel
theorem dX6_plan_19 : decode cX6_plan 19 = .ok (.iload 4, 2) := by decide +kernel
theorem dX6_plan_21 : decode cX6_plan 21 = .ok (.invokestatic 185, 3) := by decide +kernel
theorem dX6_plan_24 : decode cX6_plan 24 = .ok (.istore 5, 2) := by decide +kernel
theorem dX6_plan_26 : decode cX6_plan 26 = .ok (.aload_n 0, 1) := by decide +kernel
theorem dX6_plan_27 : decode cX6_plan 27 = .ok (.iload_n 1, 1) := by decide +kernel
theorem dX6_plan_28 : decode cX6_plan 28 = .ok (.iload_n 2, 1) := by decide +kernel
theorem dX6_plan_29 : decode cX6_plan 29 = .ok (.iload 5, 2) := by decide +kernel
theorem dX6_plan_31 : decode cX6_plan 31 = .ok (.invokevirtual 191, 3) := by decide +kernel
theorem dX6_plan_34 : decode cX6_plan 34 = .ok (.ifCond .ne 13, 3) := by decide +kernel
theorem dX6_plan_37 : decode cX6_plan 37 = .ok (.new 52, 3) := by decide +kernel
theorem dX6_plan_40 : decode cX6_plan 40 = .ok (.dup, 1) := by decide +kernel
theorem dX6_plan_41 : decode cX6_plan 41 = .ok (.ldc 201, 2) := by decide +kernel
theorem dX6_plan_43 : decode cX6_plan 43 = .ok (.invokespecial 56, 3) := by decide +kernel
theorem dX6_plan_46 : decode cX6_plan 46 = .ok (.athrow, 1) := by decide +kernel
theorem dX6_plan_47 : decode cX6_plan 47 = .ok (.aload_n 0, 1) := by decide +kernel
theorem dX6_plan_48 : decode cX6_plan 48 = .ok (.getfield 26, 3) := by decide +kernel
theorem dX6_plan_51 : decode cX6_plan 51 = .ok (.getfield 173, 3) := by decide +kernel
theorem dX6_plan_54 : decode cX6_plan 54 = .ok (.iload_n 1, 1) := by decide +kernel
theorem dX6_plan_55 : decode cX6_plan 55 = .ok (.iaload, 1) := by decide +kernel
theorem dX6_plan_56 : decode cX6_plan 56 = .ok (.istore 6, 2) := by decide +kernel
theorem dX6_plan_58 : decode cX6_plan 58 = .ok (.iload 6, 2) := by decide +kernel
theorem dX6_plan_60 : decode cX6_plan 60 = .ok (.iconst (-1), 1) := by decide +kernel
theorem dX6_plan_61 : decode cX6_plan 61 = .ok (.if_icmp .ne 13, 3) := by decide +kernel
theorem dX6_plan_64 : decode cX6_plan 64 = .ok (.new 52, 3) := by decide +kernel
theorem dX6_plan_67 : decode cX6_plan 67 = .ok (.dup, 1) := by decide +kernel
theorem dX6_plan_68 : decode cX6_plan 68 = .ok (.ldc 203, 2) := by decide +kernel
theorem dX6_plan_70 : decode cX6_plan 70 = .ok (.invokespecial 56, 3) := by decide +kernel
theorem dX6_plan_73 : decode cX6_plan 73 = .ok (.athrow, 1) := by decide +kernel
theorem dX6_plan_74 : decode cX6_plan 74 = .ok (.aload_n 0, 1) := by decide +kernel
theorem dX6_plan_75 : decode cX6_plan 75 = .ok (.getfield 33, 3) := by decide +kernel
theorem dX6_plan_78 : decode cX6_plan 78 = .ok (.getfield 205, 3) := by decide +kernel
theorem dX6_plan_81 : decode cX6_plan 81 = .ok (.bipush 12, 2) := by decide +kernel
theorem dX6_plan_83 : decode cX6_plan 83 = .ok (.if_icmp .lt 13, 3) := by decide +kernel
theorem dX6_plan_86 : decode cX6_plan 86 = .ok (.new 52, 3) := by decide +kernel
theorem dX6_plan_89 : decode cX6_plan 89 = .ok (.dup, 1) := by decide +kernel
theorem dX6_plan_90 : decode cX6_plan 90 = .ok (.ldc 208, 2) := by decide +kernel
theorem dX6_plan_92 : decode cX6_plan 92 = .ok (.invokespecial 56, 3) := by decide +kernel
theorem dX6_plan_95 : decode cX6_plan 95 = .ok (.athrow, 1) := by decide +kernel
theorem dX6_plan_96 : decode cX6_plan 96 = .ok (.aload_n 0, 1) := by decide +kernel
theorem dX6_plan_97 : decode cX6_plan 97 = .ok (.getfield 33, 3) := by decide +kernel
theorem dX6_plan_100 : decode cX6_plan 100 = .ok (.iload_n 1, 1) := by decide +kernel
theorem dX6_plan_101 : decode cX6_plan 101 = .ok (.iload 6, 2) := by decide +kernel
theorem dX6_plan_103 : decode cX6_plan 103 = .ok (.iload_n 2, 1) := by decide +kernel
theorem dX6_plan_104 : decode cX6_plan 104 = .ok (.iload 5, 2) := by decide +kernel
theorem dX6_plan_106 : decode cX6_plan 106 = .ok (.invokevirtual 210, 3) := by decide +kernel
theorem dX6_plan_109 : decode cX6_plan 109 = .ok (.ireturn, 1) := by decide +kernel
theorem dX6_isWrong_0 : decode cX6_isWrong 0 = .ok (.iload_n 1, 1) := by decide +kernel
theorem dX6_isWrong_1 : decode cX6_isWrong 1 = .ok (.ifCond .lt 14, 3) := by decide +kernel
theorem dX6_isWrong_4 : decode cX6_isWrong 4 = .ok (.iload_n 1, 1) := by decide +kernel
theorem dX6_isWrong_5 : decode cX6_isWrong 5 = .ok (.aload_n 0, 1) := by decide +kernel
theorem dX6_isWrong_6 : decode cX6_isWrong 6 = .ok (.getfield 33, 3) := by decide +kernel
theorem dX6_isWrong_9 : decode cX6_isWrong 9 = .ok (.getfield 205, 3) := by decide +kernel
theorem dX6_isWrong_12 : decode cX6_isWrong 12 = .ok (.if_icmp .lt 13, 3) := by decide +kernel
theorem dX6_isWrong_15 : decode cX6_isWrong 15 = .ok (.new 123, 3) := by decide +kernel
theorem dX6_isWrong_18 : decode cX6_isWrong 18 = .ok (.dup, 1) := by decide +kernel
theorem dX6_isWrong_19 : decode cX6_isWrong 19 = .ok (.ldc 213, 2) := by decide +kernel
theorem dX6_isWrong_21 : decode cX6_isWrong 21 = .ok (.invokespecial 127, 3) := by decide +kernel
theorem dX6_isWrong_24 : decode cX6_isWrong 24 = .ok (.athrow, 1) := by decide +kernel
theorem dX6_isWrong_25 : decode cX6_isWrong 25 = .ok (.aload_n 0, 1) := by decide +kernel
theorem dX6_isWrong_26 : decode cX6_isWrong 26 = .ok (.iload_n 1, 1) := by decide +kernel
theorem dX6_isWrong_27 : decode cX6_isWrong 27 = .ok (.invokevirtual 215, 3) := by decide +kernel
theorem dX6_isWrong_30 : decode cX6_isWrong 30 = .ok (.ireturn, 1) := by decide +kernel
theorem dX6_wrong_0 : decode cX6_wrong 0 = .ok (.aload_n 0, 1) := by decide +kernel
theorem dX6_wrong_1 : decode cX6_wrong 1 = .ok (.invokevirtual 82, 3) := by decide +kernel
theorem dX6_wrong_4 : decode cX6_wrong 4 = .ok (.ireturn, 1) := by decide +kernel
theorem dX6_needStar_0 : decode cX6_needStar 0 = .ok (.iload_n 1, 1) := by decide +kernel
theorem dX6_needStar_1 : decode cX6_needStar 1 = .ok (.ifCond .lt 14, 3) := by decide +kernel
theorem dX6_needStar_4 : decode cX6_needStar 4 = .ok (.iload_n 1, 1) := by decide +kernel
theorem dX6_needStar_5 : decode cX6_needStar 5 = .ok (.aload_n 0, 1) := by decide +kernel
theorem dX6_needStar_6 : decode cX6_needStar 6 = .ok (.getfield 12, 3) := by decide +kernel
theorem dX6_needStar_9 : decode cX6_needStar 9 = .ok (.getfield 48, 3) := by decide +kernel
theorem dX6_needStar_12 : decode cX6_needStar 12 = .ok (.if_icmp .lt 13, 3) := by decide +kernel
theorem dX6_needStar_15 : decode cX6_needStar 15 = .ok (.new 123, 3) := by decide +kernel
theorem dX6_needStar_18 : decode cX6_needStar 18 = .ok (.dup, 1) := by decide +kernel
theorem dX6_needStar_19 : decode cX6_needStar 19 = .ok (.ldc 219, 2) := by decide +kernel
theorem dX6_needStar_21 : decode cX6_needStar 21 = .ok (.invokespecial 127, 3) := by decide +kernel
theorem dX6_needStar_24 : decode cX6_needStar 24 = .ok (.athrow, 1) := by decide +kernel
theorem dX6_needStar_25 : decode cX6_needStar 25 = .ok (.return_, 1) := by decide +kernel
theorem dX6_needFigure_0 : decode cX6_needFigure 0 = .ok (.iload_n 1, 1) := by decide +kernel
theorem dX6_needFigure_1 : decode cX6_needFigure 1 = .ok (.ifCond .lt 14, 3) := by decide +kernel
theorem dX6_needFigure_4 : decode cX6_needFigure 4 = .ok (.iload_n 1, 1) := by decide +kernel
theorem dX6_needFigure_5 : decode cX6_needFigure 5 = .ok (.aload_n 0, 1) := by decide +kernel
theorem dX6_needFigure_6 : decode cX6_needFigure 6 = .ok (.getfield 19, 3) := by decide +kernel
theorem dX6_needFigure_9 : decode cX6_needFigure 9 = .ok (.getfield 86, 3) := by decide +kernel
theorem dX6_needFigure_12 : decode cX6_needFigure 12 = .ok (.if_icmp .lt 13, 3) := by decide +kernel
theorem dX6_needFigure_15 : decode cX6_needFigure 15 = .ok (.new 123, 3) := by decide +kernel
theorem dX6_needFigure_18 : decode cX6_needFigure 18 = .ok (.dup, 1) := by decide +kernel
theorem dX6_needFigure_19 : decode cX6_needFigure 19 = .ok (.ldc 221, 2) := by decide +kernel
theorem dX6_needFigure_21 : decode cX6_needFigure 21 = .ok (.invokespecial 127, 3) := by decide +kernel
theorem dX6_needFigure_24 : decode cX6_needFigure 24 = .ok (.athrow, 1) := by decide +kernel
theorem dX6_needFigure_25 : decode cX6_needFigure 25 = .ok (.return_, 1) := by decide +kernel
theorem dX6_needPlace_0 : decode cX6_needPlace 0 = .ok (.iload_n 0, 1) := by decide +kernel
theorem dX6_needPlace_1 : decode cX6_needPlace 1 = .ok (.ifCond .lt 10, 3) := by decide +kernel
theorem dX6_needPlace_4 : decode cX6_needPlace 4 = .ok (.iload_n 0, 1) := by decide +kernel
theorem dX6_needPlace_5 : decode cX6_needPlace 5 = .ok (.sipush 360, 3) := by decide +kernel
theorem dX6_needPlace_8 : decode cX6_needPlace 8 = .ok (.if_icmp .lt 13, 3) := by decide +kernel
theorem dX6_needPlace_11 : decode cX6_needPlace 11 = .ok (.new 97, 3) := by decide +kernel
theorem dX6_needPlace_14 : decode cX6_needPlace 14 = .ok (.dup, 1) := by decide +kernel
theorem dX6_needPlace_15 : decode cX6_needPlace 15 = .ok (.ldc 223, 2) := by decide +kernel
theorem dX6_needPlace_17 : decode cX6_needPlace 17 = .ok (.invokespecial 101, 3) := by decide +kernel
theorem dX6_needPlace_20 : decode cX6_needPlace 20 = .ok (.athrow, 1) := by decide +kernel
theorem dX6_needPlace_21 : decode cX6_needPlace 21 = .ok (.iload_n 1, 1) := by decide +kernel
theorem dX6_needPlace_22 : decode cX6_needPlace 22 = .ok (.bipush (-90), 2) := by decide +kernel
theorem dX6_needPlace_24 : decode cX6_needPlace 24 = .ok (.if_icmp .lt 9, 3) := by decide +kernel
theorem dX6_needPlace_27 : decode cX6_needPlace 27 = .ok (.iload_n 1, 1) := by decide +kernel
theorem dX6_needPlace_28 : decode cX6_needPlace 28 = .ok (.bipush 90, 2) := by decide +kernel
theorem dX6_needPlace_30 : decode cX6_needPlace 30 = .ok (.if_icmp .le 13, 3) := by decide +kernel
theorem dX6_needPlace_33 : decode cX6_needPlace 33 = .ok (.new 97, 3) := by decide +kernel
theorem dX6_needPlace_36 : decode cX6_needPlace 36 = .ok (.dup, 1) := by decide +kernel
theorem dX6_needPlace_37 : decode cX6_needPlace 37 = .ok (.ldc 225, 2) := by decide +kernel
theorem dX6_needPlace_39 : decode cX6_needPlace 39 = .ok (.invokespecial 101, 3) := by decide +kernel
theorem dX6_needPlace_42 : decode cX6_needPlace 42 = .ok (.athrow, 1) := by decide +kernel
theorem dX6_needPlace_43 : decode cX6_needPlace 43 = .ok (.return_, 1) := by decide +kernel
theorem dX6_needName_0 : decode cX6_needName 0 = .ok (.iload_n 0, 1) := by decide +kernel
theorem dX6_needName_1 : decode cX6_needName 1 = .ok (.ifCond .lt 9, 3) := by decide +kernel
theorem dX6_needName_4 : decode cX6_needName 4 = .ok (.iload_n 0, 1) := by decide +kernel
theorem dX6_needName_5 : decode cX6_needName 5 = .ok (.bipush 10, 2) := by decide +kernel
theorem dX6_needName_7 : decode cX6_needName 7 = .ok (.if_icmp .lt 13, 3) := by decide +kernel
theorem dX6_needName_10 : decode cX6_needName 10 = .ok (.new 97, 3) := by decide +kernel
theorem dX6_needName_13 : decode cX6_needName 13 = .ok (.dup, 1) := by decide +kernel
theorem dX6_needName_14 : decode cX6_needName 14 = .ok (.ldc 227, 2) := by decide +kernel
theorem dX6_needName_16 : decode cX6_needName 16 = .ok (.invokespecial 101, 3) := by decide +kernel
theorem dX6_needName_19 : decode cX6_needName 19 = .ok (.athrow, 1) := by decide +kernel
theorem dX6_needName_20 : decode cX6_needName 20 = .ok (.return_, 1) := by decide +kernel
theorem dX6_needLatitude_0 : decode cX6_needLatitude 0 = .ok (.iload_n 0, 1) := by decide +kernel
theorem dX6_needLatitude_1 : decode cX6_needLatitude 1 = .ok (.bipush (-90), 2) := by decide +kernel
theorem dX6_needLatitude_3 : decode cX6_needLatitude 3 = .ok (.if_icmp .lt 9, 3) := by decide +kernel
theorem dX6_needLatitude_6 : decode cX6_needLatitude 6 = .ok (.iload_n 0, 1) := by decide +kernel
theorem dX6_needLatitude_7 : decode cX6_needLatitude 7 = .ok (.bipush 90, 2) := by decide +kernel
theorem dX6_needLatitude_9 : decode cX6_needLatitude 9 = .ok (.if_icmp .le 13, 3) := by decide +kernel
theorem dX6_needLatitude_12 : decode cX6_needLatitude 12 = .ok (.new 97, 3) := by decide +kernel
theorem dX6_needLatitude_15 : decode cX6_needLatitude 15 = .ok (.dup, 1) := by decide +kernel
theorem dX6_needLatitude_16 : decode cX6_needLatitude 16 = .ok (.ldc 229, 2) := by decide +kernel
theorem dX6_needLatitude_18 : decode cX6_needLatitude 18 = .ok (.invokespecial 101, 3) := by decide +kernel
theorem dX6_needLatitude_21 : decode cX6_needLatitude 21 = .ok (.athrow, 1) := by decide +kernel
theorem dX6_needLatitude_22 : decode cX6_needLatitude 22 = .ok (.return_, 1) := by decide +kernel
theorem dX6_needDay_0 : decode cX6_needDay 0 = .ok (.iload_n 0, 1) := by decide +kernel
theorem dX6_needDay_1 : decode cX6_needDay 1 = .ok (.ifCond .lt 10, 3) := by decide +kernel
theorem dX6_needDay_4 : decode cX6_needDay 4 = .ok (.iload_n 0, 1) := by decide +kernel
theorem dX6_needDay_5 : decode cX6_needDay 5 = .ok (.sipush 365, 3) := by decide +kernel
theorem dX6_needDay_8 : decode cX6_needDay 8 = .ok (.if_icmp .lt 13, 3) := by decide +kernel
theorem dX6_needDay_11 : decode cX6_needDay 11 = .ok (.new 97, 3) := by decide +kernel
theorem dX6_needDay_14 : decode cX6_needDay 14 = .ok (.dup, 1) := by decide +kernel
theorem dX6_needDay_15 : decode cX6_needDay 15 = .ok (.ldc 231, 2) := by decide +kernel
theorem dX6_needDay_17 : decode cX6_needDay 17 = .ok (.invokespecial 101, 3) := by decide +kernel
theorem dX6_needDay_20 : decode cX6_needDay 20 = .ok (.athrow, 1) := by decide +kernel
theorem dX6_needDay_21 : decode cX6_needDay 21 = .ok (.return_, 1) := by decide +kernel
theorem dX6_needHour_0 : decode cX6_needHour 0 = .ok (.iload_n 0, 1) := by decide +kernel
theorem dX6_needHour_1 : decode cX6_needHour 1 = .ok (.ifCond .lt 9, 3) := by decide +kernel
theorem dX6_needHour_4 : decode cX6_needHour 4 = .ok (.iload_n 0, 1) := by decide +kernel
theorem dX6_needHour_5 : decode cX6_needHour 5 = .ok (.bipush 24, 2) := by decide +kernel
theorem dX6_needHour_7 : decode cX6_needHour 7 = .ok (.if_icmp .lt 13, 3) := by decide +kernel
theorem dX6_needHour_10 : decode cX6_needHour 10 = .ok (.new 97, 3) := by decide +kernel
theorem dX6_needHour_13 : decode cX6_needHour 13 = .ok (.dup, 1) := by decide +kernel
theorem dX6_needHour_14 : decode cX6_needHour 14 = .ok (.ldc 233, 2) := by decide +kernel
theorem dX6_needHour_16 : decode cX6_needHour 16 = .ok (.invokespecial 101, 3) := by decide +kernel
theorem dX6_needHour_19 : decode cX6_needHour 19 = .ok (.athrow, 1) := by decide +kernel
theorem dX6_needHour_20 : decode cX6_needHour 20 = .ok (.return_, 1) := by decide +kernel
theorem dX6_takeBack_0 : decode cX6_takeBack 0 = .ok (.aload_n 0, 1) := by decide +kernel
theorem dX6_takeBack_1 : decode cX6_takeBack 1 = .ok (.getfield 40, 3) := by decide +kernel
theorem dX6_takeBack_4 : decode cX6_takeBack 4 = .ok (.getfield 235, 3) := by decide +kernel
theorem dX6_takeBack_7 : decode cX6_takeBack 7 = .ok (.iload_n 1, 1) := by decide +kernel
theorem dX6_takeBack_8 : decode cX6_takeBack 8 = .ok (.iaload, 1) := by decide +kernel
theorem dX6_takeBack_9 : decode cX6_takeBack 9 = .ok (.istore_n 2, 1) := by decide +kernel
theorem dX6_takeBack_10 : decode cX6_takeBack 10 = .ok (.aload_n 0, 1) := by decide +kernel
theorem dX6_takeBack_11 : decode cX6_takeBack 11 = .ok (.getfield 40, 3) := by decide +kernel
theorem dX6_takeBack_14 : decode cX6_takeBack 14 = .ok (.getfield 238, 3) := by decide +kernel
theorem dX6_takeBack_17 : decode cX6_takeBack 17 = .ok (.iload_n 1, 1) := by decide +kernel
theorem dX6_takeBack_18 : decode cX6_takeBack 18 = .ok (.iaload, 1) := by decide +kernel
theorem dX6_takeBack_19 : decode cX6_takeBack 19 = .ok (.istore_n 3, 1) := by decide +kernel
theorem dX6_takeBack_20 : decode cX6_takeBack 20 = .ok (.aload_n 0, 1) := by decide +kernel
theorem dX6_takeBack_21 : decode cX6_takeBack 21 = .ok (.getfield 40, 3) := by decide +kernel
theorem dX6_takeBack_24 : decode cX6_takeBack 24 = .ok (.getfield 241, 3) := by decide +kernel
theorem dX6_takeBack_27 : decode cX6_takeBack 27 = .ok (.iload_n 1, 1) := by decide +kernel
theorem dX6_takeBack_28 : decode cX6_takeBack 28 = .ok (.iaload, 1) := by decide +kernel
theorem dX6_takeBack_29 : decode cX6_takeBack 29 = .ok (.istore 4, 2) := by decide +kernel
theorem dX6_takeBack_31 : decode cX6_takeBack 31 = .ok (.aload_n 0, 1) := by decide +kernel
theorem dX6_takeBack_32 : decode cX6_takeBack 32 = .ok (.getfield 40, 3) := by decide +kernel
theorem dX6_takeBack_35 : decode cX6_takeBack 35 = .ok (.getfield 244, 3) := by decide +kernel
theorem dX6_takeBack_38 : decode cX6_takeBack 38 = .ok (.iload_n 1, 1) := by decide +kernel
theorem dX6_takeBack_39 : decode cX6_takeBack 39 = .ok (.iaload, 1) := by decide +kernel
theorem dX6_takeBack_40 : decode cX6_takeBack 40 = .ok (.istore 5, 2) := by decide +kernel
theorem dX6_takeBack_42 : decode cX6_takeBack 42 = .ok (.aload_n 0, 1) := by decide +kernel
theorem dX6_takeBack_43 : decode cX6_takeBack 43 = .ok (.getfield 40, 3) := by decide +kernel
theorem dX6_takeBack_46 : decode cX6_takeBack 46 = .ok (.getfield 247, 3) := by decide +kernel
theorem dX6_takeBack_49 : decode cX6_takeBack 49 = .ok (.iload_n 1, 1) := by decide +kernel
theorem dX6_takeBack_50 : decode cX6_takeBack 50 = .ok (.iaload, 1) := by decide +kernel
theorem dX6_takeBack_51 : decode cX6_takeBack 51 = .ok (.tableswitch 68 0 2 #[25, 40, 52], 25) := by decide +kernel
theorem dX6_takeBack_76 : decode cX6_takeBack 76 = .ok (.aload_n 0, 1) := by decide +kernel
theorem dX6_takeBack_77 : decode cX6_takeBack 77 = .ok (.getfield 12, 3) := by decide +kernel
theorem dX6_takeBack_80 : decode cX6_takeBack 80 = .ok (.iload_n 2, 1) := by decide +kernel
theorem dX6_takeBack_81 : decode cX6_takeBack 81 = .ok (.iload 4, 2) := by decide +kernel
theorem dX6_takeBack_83 : decode cX6_takeBack 83 = .ok (.iload 5, 2) := by decide +kernel
theorem dX6_takeBack_85 : decode cX6_takeBack 85 = .ok (.invokevirtual 78, 3) := by decide +kernel
theorem dX6_takeBack_88 : decode cX6_takeBack 88 = .ok (.goto 31, 3) := by decide +kernel
theorem dX6_takeBack_91 : decode cX6_takeBack 91 = .ok (.aload_n 0, 1) := by decide +kernel
theorem dX6_takeBack_92 : decode cX6_takeBack 92 = .ok (.getfield 19, 3) := by decide +kernel
theorem dX6_takeBack_95 : decode cX6_takeBack 95 = .ok (.iload_n 2, 1) := by decide +kernel
theorem dX6_takeBack_96 : decode cX6_takeBack 96 = .ok (.iload_n 3, 1) := by decide +kernel
theorem dX6_takeBack_97 : decode cX6_takeBack 97 = .ok (.invokevirtual 137, 3) := by decide +kernel
theorem dX6_takeBack_100 : decode cX6_takeBack 100 = .ok (.goto 19, 3) := by decide +kernel
theorem dX6_takeBack_103 : decode cX6_takeBack 103 = .ok (.aload_n 0, 1) := by decide +kernel
theorem dX6_takeBack_104 : decode cX6_takeBack 104 = .ok (.getfield 19, 3) := by decide +kernel
theorem dX6_takeBack_107 : decode cX6_takeBack 107 = .ok (.iload_n 2, 1) := by decide +kernel
theorem dX6_takeBack_108 : decode cX6_takeBack 108 = .ok (.iload_n 3, 1) := by decide +kernel
theorem dX6_takeBack_109 : decode cX6_takeBack 109 = .ok (.iload 4, 2) := by decide +kernel
theorem dX6_takeBack_111 : decode cX6_takeBack 111 = .ok (.iload 5, 2) := by decide +kernel
theorem dX6_takeBack_113 : decode cX6_takeBack 113 = .ok (.invokevirtual 119, 3) := by decide +kernel
theorem dX6_takeBack_116 : decode cX6_takeBack 116 = .ok (.goto 3, 3) := by decide +kernel
theorem dX6_takeBack_119 : decode cX6_takeBack 119 = .ok (.return_, 1) := by decide +kernel
theorem dX6_linesCross_0 : decode cX6_linesCross 0 = .ok (.aload_n 0, 1) := by decide +kernel
theorem dX6_linesCross_1 : decode cX6_linesCross 1 = .ok (.getfield 19, 3) := by decide +kernel
theorem dX6_linesCross_4 : decode cX6_linesCross 4 = .ok (.getfield 131, 3) := by decide +kernel
theorem dX6_linesCross_7 : decode cX6_linesCross 7 = .ok (.iload_n 1, 1) := by decide +kernel
theorem dX6_linesCross_8 : decode cX6_linesCross 8 = .ok (.iaload, 1) := by decide +kernel
theorem dX6_linesCross_9 : decode cX6_linesCross 9 = .ok (.istore_n 3, 1) := by decide +kernel
theorem dX6_linesCross_10 : decode cX6_linesCross 10 = .ok (.aload_n 0, 1) := by decide +kernel
theorem dX6_linesCross_11 : decode cX6_linesCross 11 = .ok (.getfield 19, 3) := by decide +kernel
theorem dX6_linesCross_14 : decode cX6_linesCross 14 = .ok (.getfield 134, 3) := by decide +kernel
theorem dX6_linesCross_17 : decode cX6_linesCross 17 = .ok (.iload_n 1, 1) := by decide +kernel
theorem dX6_linesCross_18 : decode cX6_linesCross 18 = .ok (.iaload, 1) := by decide +kernel
theorem dX6_linesCross_19 : decode cX6_linesCross 19 = .ok (.istore 4, 2) := by decide +kernel
theorem dX6_linesCross_21 : decode cX6_linesCross 21 = .ok (.aload_n 0, 1) := by decide +kernel
theorem dX6_linesCross_22 : decode cX6_linesCross 22 = .ok (.getfield 19, 3) := by decide +kernel
theorem dX6_linesCross_25 : decode cX6_linesCross 25 = .ok (.getfield 131, 3) := by decide +kernel
theorem dX6_linesCross_28 : decode cX6_linesCross 28 = .ok (.iload_n 2, 1) := by decide +kernel
theorem dX6_linesCross_29 : decode cX6_linesCross 29 = .ok (.iaload, 1) := by decide +kernel
theorem dX6_linesCross_30 : decode cX6_linesCross 30 = .ok (.istore 5, 2) := by decide +kernel
theorem dX6_linesCross_32 : decode cX6_linesCross 32 = .ok (.aload_n 0, 1) := by decide +kernel
theorem dX6_linesCross_33 : decode cX6_linesCross 33 = .ok (.getfield 19, 3) := by decide +kernel
theorem dX6_linesCross_36 : decode cX6_linesCross 36 = .ok (.getfield 134, 3) := by decide +kernel
theorem dX6_linesCross_39 : decode cX6_linesCross 39 = .ok (.iload_n 2, 1) := by decide +kernel
theorem dX6_linesCross_40 : decode cX6_linesCross 40 = .ok (.iaload, 1) := by decide +kernel
theorem dX6_linesCross_41 : decode cX6_linesCross 41 = .ok (.istore 6, 2) := by decide +kernel
theorem dX6_linesCross_43 : decode cX6_linesCross 43 = .ok (.iload_n 3, 1) := by decide +kernel
theorem dX6_linesCross_44 : decode cX6_linesCross 44 = .ok (.iload 5, 2) := by decide +kernel
theorem dX6_linesCross_46 : decode cX6_linesCross 46 = .ok (.if_icmp .eq 23, 3) := by decide +kernel
theorem dX6_linesCross_49 : decode cX6_linesCross 49 = .ok (.iload_n 3, 1) := by decide +kernel
theorem dX6_linesCross_50 : decode cX6_linesCross 50 = .ok (.iload 6, 2) := by decide +kernel
theorem dX6_linesCross_52 : decode cX6_linesCross 52 = .ok (.if_icmp .eq 17, 3) := by decide +kernel
theorem dX6_linesCross_55 : decode cX6_linesCross 55 = .ok (.iload 4, 2) := by decide +kernel
theorem dX6_linesCross_57 : decode cX6_linesCross 57 = .ok (.iload 5, 2) := by decide +kernel
theorem dX6_linesCross_59 : decode cX6_linesCross 59 = .ok (.if_icmp .eq 10, 3) := by decide +kernel
theorem dX6_linesCross_62 : decode cX6_linesCross 62 = .ok (.iload 4, 2) := by decide +kernel
theorem dX6_linesCross_64 : decode cX6_linesCross 64 = .ok (.iload 6, 2) := by decide +kernel
theorem dX6_linesCross_66 : decode cX6_linesCross 66 = .ok (.if_icmp .ne 7, 3) := by decide +kernel
theorem dX6_linesCross_69 : decode cX6_linesCross 69 = .ok (.iconst 1, 1) := by decide +kernel
theorem dX6_linesCross_70 : decode cX6_linesCross 70 = .ok (.goto 4, 3) := by decide +kernel
theorem dX6_linesCross_73 : decode cX6_linesCross 73 = .ok (.iconst 0, 1) := by decide +kernel
theorem dX6_linesCross_74 : decode cX6_linesCross 74 = .ok (.istore 7, 2) := by decide +kernel
theorem dX6_linesCross_76 : decode cX6_linesCross 76 = .ok (.iload 7, 2) := by decide +kernel
theorem dX6_linesCross_78 : decode cX6_linesCross 78 = .ok (.ifCond .ne 24, 3) := by decide +kernel
theorem dX6_linesCross_81 : decode cX6_linesCross 81 = .ok (.aload_n 0, 1) := by decide +kernel
theorem dX6_linesCross_82 : decode cX6_linesCross 82 = .ok (.getfield 12, 3) := by decide +kernel
theorem dX6_linesCross_85 : decode cX6_linesCross 85 = .ok (.iload_n 3, 1) := by decide +kernel
theorem dX6_linesCross_86 : decode cX6_linesCross 86 = .ok (.iload 4, 2) := by decide +kernel
theorem dX6_linesCross_88 : decode cX6_linesCross 88 = .ok (.iload 5, 2) := by decide +kernel
theorem dX6_linesCross_90 : decode cX6_linesCross 90 = .ok (.iload 6, 2) := by decide +kernel
theorem dX6_linesCross_92 : decode cX6_linesCross 92 = .ok (.invokevirtual 250, 3) := by decide +kernel
theorem dX6_linesCross_95 : decode cX6_linesCross 95 = .ok (.ifCond .eq 7, 3) := by decide +kernel
theorem dX6_linesCross_98 : decode cX6_linesCross 98 = .ok (.iconst 1, 1) := by decide +kernel
theorem dX6_linesCross_99 : decode cX6_linesCross 99 = .ok (.goto 4, 3) := by decide +kernel
theorem dX6_linesCross_102 : decode cX6_linesCross 102 = .ok (.iconst 0, 1) := by decide +kernel
theorem dX6_linesCross_103 : decode cX6_linesCross 103 = .ok (.ireturn, 1) := by decide +kernel
theorem dX6_skyTurn_0 : decode cX6_skyTurn 0 = .ok (.bipush 15, 2) := by decide +kernel
theorem dX6_skyTurn_2 : decode cX6_skyTurn 2 = .ok (.iload_n 1, 1) := by decide +kernel
theorem dX6_skyTurn_3 : decode cX6_skyTurn 3 = .ok (.imul, 1) := by decide +kernel
theorem dX6_skyTurn_4 : decode cX6_skyTurn 4 = .ok (.iload_n 0, 1) := by decide +kernel
theorem dX6_skyTurn_5 : decode cX6_skyTurn 5 = .ok (.iadd, 1) := by decide +kernel
theorem dX6_skyTurn_6 : decode cX6_skyTurn 6 = .ok (.ireturn, 1) := by decide +kernel
theorem dX6_figureIsUp_0 : decode cX6_figureIsUp 0 = .ok (.aload_n 0, 1) := by decide +kernel
theorem dX6_figureIsUp_1 : decode cX6_figureIsUp 1 = .ok (.iload_n 1, 1) := by decide +kernel
theorem dX6_figureIsUp_2 : decode cX6_figureIsUp 2 = .ok (.iload_n 2, 1) := by decide +kernel
theorem dX6_figureIsUp_3 : decode cX6_figureIsUp 3 = .ok (.iload_n 3, 1) := by decide +kernel
theorem dX6_figureIsUp_4 : decode cX6_figureIsUp 4 = .ok (.invokevirtual 198, 3) := by decide +kernel
theorem dX6_figureIsUp_7 : decode cX6_figureIsUp 7 = .ok (.ifCond .le 7, 3) := by decide +kernel
theorem dX6_figureIsUp_10 : decode cX6_figureIsUp 10 = .ok (.iconst 1, 1) := by decide +kernel
theorem dX6_figureIsUp_11 : decode cX6_figureIsUp 11 = .ok (.goto 4, 3) := by decide +kernel
theorem dX6_figureIsUp_14 : decode cX6_figureIsUp 14 = .ok (.iconst 0, 1) := by decide +kernel
theorem dX6_figureIsUp_15 : decode cX6_figureIsUp 15 = .ok (.ireturn, 1) := by decide +kernel
theorem dX6_lowestHeight_0 : decode cX6_lowestHeight 0 = .ok (.aload_n 0, 1) := by decide +kernel
theorem dX6_lowestHeight_1 : decode cX6_lowestHeight 1 = .ok (.getfield 19, 3) := by decide +kernel
theorem dX6_lowestHeight_4 : decode cX6_lowestHeight 4 = .ok (.getfield 102, 3) := by decide +kernel
theorem dX6_lowestHeight_7 : decode cX6_lowestHeight 7 = .ok (.iload_n 1, 1) := by decide +kernel
theorem dX6_lowestHeight_8 : decode cX6_lowestHeight 8 = .ok (.iaload, 1) := by decide +kernel
theorem dX6_lowestHeight_9 : decode cX6_lowestHeight 9 = .ok (.istore 4, 2) := by decide +kernel
theorem dX6_lowestHeight_11 : decode cX6_lowestHeight 11 = .ok (.iload 4, 2) := by decide +kernel
theorem dX6_lowestHeight_13 : decode cX6_lowestHeight 13 = .ok (.ifCond .ne 7, 3) := by decide +kernel
theorem dX6_lowestHeight_16 : decode cX6_lowestHeight 16 = .ok (.iconst 0, 1) := by decide +kernel
theorem dX6_lowestHeight_17 : decode cX6_lowestHeight 17 = .ok (.goto 6, 3) := by decide +kernel
theorem dX6_lowestHeight_20 : decode cX6_lowestHeight 20 = .ok (.sipush 1000, 3) := by decide +kernel
theorem dX6_lowestHeight_23 : decode cX6_lowestHeight 23 = .ok (.istore 5, 2) := by decide +kernel
theorem dX6_lowestHeight_25 : decode cX6_lowestHeight 25 = .ok (.iconst 0, 1) := by decide +kernel
theorem dX6_lowestHeight_26 : decode cX6_lowestHeight 26 = .ok (.istore 6, 2) := by decide +kernel
theorem dX6_lowestHeight_28 : decode cX6_lowestHeight 28 = .ok (.iload 6, 2) := by decide +kernel
theorem dX6_lowestHeight_30 : decode cX6_lowestHeight 30 = .ok (.iload 4, 2) := by decide +kernel
theorem dX6_lowestHeight_32 : decode cX6_lowestHeight 32 = .ok (.if_icmp .ge 69, 3) := by decide +kernel
theorem dX6_lowestHeight_35 : decode cX6_lowestHeight 35 = .ok (.iload_n 1, 1) := by decide +kernel
theorem dX6_lowestHeight_36 : decode cX6_lowestHeight 36 = .ok (.iload 6, 2) := by decide +kernel
theorem dX6_lowestHeight_38 : decode cX6_lowestHeight 38 = .ok (.invokestatic 128, 3) := by decide +kernel
theorem dX6_lowestHeight_41 : decode cX6_lowestHeight 41 = .ok (.istore 7, 2) := by decide +kernel
theorem dX6_lowestHeight_43 : decode cX6_lowestHeight 43 = .ok (.iload 5, 2) := by decide +kernel
theorem dX6_lowestHeight_45 : decode cX6_lowestHeight 45 = .ok (.aload_n 0, 1) := by decide +kernel
theorem dX6_lowestHeight_46 : decode cX6_lowestHeight 46 = .ok (.getfield 12, 3) := by decide +kernel
theorem dX6_lowestHeight_49 : decode cX6_lowestHeight 49 = .ok (.aload_n 0, 1) := by decide +kernel
theorem dX6_lowestHeight_50 : decode cX6_lowestHeight 50 = .ok (.getfield 19, 3) := by decide +kernel
theorem dX6_lowestHeight_53 : decode cX6_lowestHeight 53 = .ok (.getfield 131, 3) := by decide +kernel
theorem dX6_lowestHeight_56 : decode cX6_lowestHeight 56 = .ok (.iload 7, 2) := by decide +kernel
theorem dX6_lowestHeight_58 : decode cX6_lowestHeight 58 = .ok (.iaload, 1) := by decide +kernel
theorem dX6_lowestHeight_59 : decode cX6_lowestHeight 59 = .ok (.iload_n 2, 1) := by decide +kernel
theorem dX6_lowestHeight_60 : decode cX6_lowestHeight 60 = .ok (.iload_n 3, 1) := by decide +kernel
theorem dX6_lowestHeight_61 : decode cX6_lowestHeight 61 = .ok (.invokevirtual 188, 3) := by decide +kernel
theorem dX6_lowestHeight_64 : decode cX6_lowestHeight 64 = .ok (.invokestatic 254, 3) := by decide +kernel
theorem dX6_lowestHeight_67 : decode cX6_lowestHeight 67 = .ok (.istore 5, 2) := by decide +kernel
theorem dX6_lowestHeight_69 : decode cX6_lowestHeight 69 = .ok (.iload 5, 2) := by decide +kernel
theorem dX6_lowestHeight_71 : decode cX6_lowestHeight 71 = .ok (.aload_n 0, 1) := by decide +kernel
theorem dX6_lowestHeight_72 : decode cX6_lowestHeight 72 = .ok (.getfield 12, 3) := by decide +kernel
theorem dX6_lowestHeight_75 : decode cX6_lowestHeight 75 = .ok (.aload_n 0, 1) := by decide +kernel
theorem dX6_lowestHeight_76 : decode cX6_lowestHeight 76 = .ok (.getfield 19, 3) := by decide +kernel
theorem dX6_lowestHeight_79 : decode cX6_lowestHeight 79 = .ok (.getfield 134, 3) := by decide +kernel
theorem dX6_lowestHeight_82 : decode cX6_lowestHeight 82 = .ok (.iload 7, 2) := by decide +kernel
theorem dX6_lowestHeight_84 : decode cX6_lowestHeight 84 = .ok (.iaload, 1) := by decide +kernel
theorem dX6_lowestHeight_85 : decode cX6_lowestHeight 85 = .ok (.iload_n 2, 1) := by decide +kernel
theorem dX6_lowestHeight_86 : decode cX6_lowestHeight 86 = .ok (.iload_n 3, 1) := by decide +kernel
theorem dX6_lowestHeight_87 : decode cX6_lowestHeight 87 = .ok (.invokevirtual 188, 3) := by decide +kernel
theorem dX6_lowestHeight_90 : decode cX6_lowestHeight 90 = .ok (.invokestatic 254, 3) := by decide +kernel
theorem dX6_lowestHeight_93 : decode cX6_lowestHeight 93 = .ok (.istore 5, 2) := by decide +kernel
theorem dX6_lowestHeight_95 : decode cX6_lowestHeight 95 = .ok (.iinc 6 1, 3) := by decide +kernel
theorem dX6_lowestHeight_98 : decode cX6_lowestHeight 98 = .ok (.goto (-70), 3) := by decide +kernel
theorem dX6_lowestHeight_101 : decode cX6_lowestHeight 101 = .ok (.iload 5, 2) := by decide +kernel
theorem dX6_lowestHeight_103 : decode cX6_lowestHeight 103 = .ok (.ireturn, 1) := by decide +kernel
theorem dX6_hoursOfStar_0 : decode cX6_hoursOfStar 0 = .ok (.iconst 0, 1) := by decide +kernel
theorem dX6_hoursOfStar_1 : decode cX6_hoursOfStar 1 = .ok (.istore 4, 2) := by decide +kernel
theorem dX6_hoursOfStar_3 : decode cX6_hoursOfStar 3 = .ok (.iconst 0, 1) := by decide +kernel
theorem dX6_hoursOfStar_4 : decode cX6_hoursOfStar 4 = .ok (.istore 5, 2) := by decide +kernel
theorem dX6_hoursOfStar_6 : decode cX6_hoursOfStar 6 = .ok (.iload 5, 2) := by decide +kernel
theorem dX6_hoursOfStar_8 : decode cX6_hoursOfStar 8 = .ok (.bipush 24, 2) := by decide +kernel
theorem dX6_hoursOfStar_10 : decode cX6_hoursOfStar 10 = .ok (.if_icmp .ge 36, 3) := by decide +kernel
theorem dX6_hoursOfStar_13 : decode cX6_hoursOfStar 13 = .ok (.aload_n 0, 1) := by decide +kernel
theorem dX6_hoursOfStar_14 : decode cX6_hoursOfStar 14 = .ok (.getfield 12, 3) := by decide +kernel
theorem dX6_hoursOfStar_17 : decode cX6_hoursOfStar 17 = .ok (.iload_n 1, 1) := by decide +kernel
theorem dX6_hoursOfStar_18 : decode cX6_hoursOfStar 18 = .ok (.iload_n 2, 1) := by decide +kernel
theorem dX6_hoursOfStar_19 : decode cX6_hoursOfStar 19 = .ok (.iload_n 3, 1) := by decide +kernel
theorem dX6_hoursOfStar_20 : decode cX6_hoursOfStar 20 = .ok (.iload 5, 2) := by decide +kernel
theorem dX6_hoursOfStar_22 : decode cX6_hoursOfStar 22 = .ok (.invokestatic 185, 3) := by decide +kernel
theorem dX6_hoursOfStar_25 : decode cX6_hoursOfStar 25 = .ok (.invokevirtual 188, 3) := by decide +kernel
theorem dX6_hoursOfStar_28 : decode cX6_hoursOfStar 28 = .ok (.ifCond .le 12, 3) := by decide +kernel
theorem dX6_hoursOfStar_31 : decode cX6_hoursOfStar 31 = .ok (.iload 4, 2) := by decide +kernel
theorem dX6_hoursOfStar_33 : decode cX6_hoursOfStar 33 = .ok (.iconst 1, 1) := by decide +kernel
theorem dX6_hoursOfStar_34 : decode cX6_hoursOfStar 34 = .ok (.iload 5, 2) := by decide +kernel
theorem dX6_hoursOfStar_36 : decode cX6_hoursOfStar 36 = .ok (.ishl, 1) := by decide +kernel
theorem dX6_hoursOfStar_37 : decode cX6_hoursOfStar 37 = .ok (.ior, 1) := by decide +kernel
theorem dX6_hoursOfStar_38 : decode cX6_hoursOfStar 38 = .ok (.istore 4, 2) := by decide +kernel
theorem dX6_hoursOfStar_40 : decode cX6_hoursOfStar 40 = .ok (.iinc 5 1, 3) := by decide +kernel
theorem dX6_hoursOfStar_43 : decode cX6_hoursOfStar 43 = .ok (.goto (-37), 3) := by decide +kernel
theorem dX6_hoursOfStar_46 : decode cX6_hoursOfStar 46 = .ok (.iload 4, 2) := by decide +kernel
theorem dX6_hoursOfStar_48 : decode cX6_hoursOfStar 48 = .ok (.ireturn, 1) := by decide +kernel
theorem dX6_showIsWrong_0 : decode cX6_showIsWrong 0 = .ok (.aload_n 0, 1) := by decide +kernel
theorem dX6_showIsWrong_1 : decode cX6_showIsWrong 1 = .ok (.getfield 33, 3) := by decide +kernel
theorem dX6_showIsWrong_4 : decode cX6_showIsWrong 4 = .ok (.getfield 259, 3) := by decide +kernel
theorem dX6_showIsWrong_7 : decode cX6_showIsWrong 7 = .ok (.iload_n 1, 1) := by decide +kernel
theorem dX6_showIsWrong_8 : decode cX6_showIsWrong 8 = .ok (.iaload, 1) := by decide +kernel
theorem dX6_showIsWrong_9 : decode cX6_showIsWrong 9 = .ok (.istore_n 2, 1) := by decide +kernel
theorem dX6_showIsWrong_10 : decode cX6_showIsWrong 10 = .ok (.aload_n 0, 1) := by decide +kernel
theorem dX6_showIsWrong_11 : decode cX6_showIsWrong 11 = .ok (.getfield 26, 3) := by decide +kernel
theorem dX6_showIsWrong_14 : decode cX6_showIsWrong 14 = .ok (.getfield 173, 3) := by decide +kernel
theorem dX6_showIsWrong_17 : decode cX6_showIsWrong 17 = .ok (.iload_n 2, 1) := by decide +kernel
theorem dX6_showIsWrong_18 : decode cX6_showIsWrong 18 = .ok (.iaload, 1) := by decide +kernel
theorem dX6_showIsWrong_19 : decode cX6_showIsWrong 19 = .ok (.aload_n 0, 1) := by decide +kernel
theorem dX6_showIsWrong_20 : decode cX6_showIsWrong 20 = .ok (.getfield 33, 3) := by decide +kernel
theorem dX6_showIsWrong_23 : decode cX6_showIsWrong 23 = .ok (.getfield 262, 3) := by decide +kernel
theorem dX6_showIsWrong_26 : decode cX6_showIsWrong 26 = .ok (.iload_n 1, 1) := by decide +kernel
theorem dX6_showIsWrong_27 : decode cX6_showIsWrong 27 = .ok (.iaload, 1) := by decide +kernel
theorem dX6_showIsWrong_28 : decode cX6_showIsWrong 28 = .ok (.if_icmp .ne 29, 3) := by decide +kernel
theorem dX6_showIsWrong_31 : decode cX6_showIsWrong 31 = .ok (.aload_n 0, 1) := by decide +kernel
theorem dX6_showIsWrong_32 : decode cX6_showIsWrong 32 = .ok (.iload_n 2, 1) := by decide +kernel
theorem dX6_showIsWrong_33 : decode cX6_showIsWrong 33 = .ok (.aload_n 0, 1) := by decide +kernel
theorem dX6_showIsWrong_34 : decode cX6_showIsWrong 34 = .ok (.getfield 33, 3) := by decide +kernel
theorem dX6_showIsWrong_37 : decode cX6_showIsWrong 37 = .ok (.getfield 265, 3) := by decide +kernel
theorem dX6_showIsWrong_40 : decode cX6_showIsWrong 40 = .ok (.iload_n 1, 1) := by decide +kernel
theorem dX6_showIsWrong_41 : decode cX6_showIsWrong 41 = .ok (.iaload, 1) := by decide +kernel
theorem dX6_showIsWrong_42 : decode cX6_showIsWrong 42 = .ok (.aload_n 0, 1) := by decide +kernel
theorem dX6_showIsWrong_43 : decode cX6_showIsWrong 43 = .ok (.getfield 33, 3) := by decide +kernel
theorem dX6_showIsWrong_46 : decode cX6_showIsWrong 46 = .ok (.getfield 268, 3) := by decide +kernel
theorem dX6_showIsWrong_49 : decode cX6_showIsWrong 49 = .ok (.iload_n 1, 1) := by decide +kernel
theorem dX6_showIsWrong_50 : decode cX6_showIsWrong 50 = .ok (.iaload, 1) := by decide +kernel
theorem dX6_showIsWrong_51 : decode cX6_showIsWrong 51 = .ok (.invokevirtual 198, 3) := by decide +kernel
theorem dX6_showIsWrong_54 : decode cX6_showIsWrong 54 = .ok (.ifCond .gt 7, 3) := by decide +kernel
theorem dX6_showIsWrong_57 : decode cX6_showIsWrong 57 = .ok (.iconst 1, 1) := by decide +kernel
theorem dX6_showIsWrong_58 : decode cX6_showIsWrong 58 = .ok (.goto 4, 3) := by decide +kernel
theorem dX6_showIsWrong_61 : decode cX6_showIsWrong 61 = .ok (.iconst 0, 1) := by decide +kernel
theorem dX6_showIsWrong_62 : decode cX6_showIsWrong 62 = .ok (.ireturn, 1) := by decide +kernel
theorem dX6_countWrongShows_0 : decode cX6_countWrongShows 0 = .ok (.iconst 0, 1) := by decide +kernel
theorem dX6_countWrongShows_1 : decode cX6_countWrongShows 1 = .ok (.istore_n 1, 1) := by decide +kernel
theorem dX6_countWrongShows_2 : decode cX6_countWrongShows 2 = .ok (.iconst 0, 1) := by decide +kernel
theorem dX6_countWrongShows_3 : decode cX6_countWrongShows 3 = .ok (.istore_n 2, 1) := by decide +kernel
theorem dX6_countWrongShows_4 : decode cX6_countWrongShows 4 = .ok (.iload_n 2, 1) := by decide +kernel
theorem dX6_countWrongShows_5 : decode cX6_countWrongShows 5 = .ok (.aload_n 0, 1) := by decide +kernel
theorem dX6_countWrongShows_6 : decode cX6_countWrongShows 6 = .ok (.getfield 33, 3) := by decide +kernel
theorem dX6_countWrongShows_9 : decode cX6_countWrongShows 9 = .ok (.getfield 205, 3) := by decide +kernel
theorem dX6_countWrongShows_12 : decode cX6_countWrongShows 12 = .ok (.if_icmp .ge 20, 3) := by decide +kernel
theorem dX6_countWrongShows_15 : decode cX6_countWrongShows 15 = .ok (.aload_n 0, 1) := by decide +kernel
theorem dX6_countWrongShows_16 : decode cX6_countWrongShows 16 = .ok (.iload_n 2, 1) := by decide +kernel
theorem dX6_countWrongShows_17 : decode cX6_countWrongShows 17 = .ok (.invokevirtual 215, 3) := by decide +kernel
theorem dX6_countWrongShows_20 : decode cX6_countWrongShows 20 = .ok (.ifCond .eq 6, 3) := by decide +kernel
theorem dX6_countWrongShows_23 : decode cX6_countWrongShows 23 = .ok (.iinc 1 1, 3) := by decide +kernel
theorem dX6_countWrongShows_26 : decode cX6_countWrongShows 26 = .ok (.iinc 2 1, 3) := by decide +kernel
theorem dX6_countWrongShows_29 : decode cX6_countWrongShows 29 = .ok (.goto (-25), 3) := by decide +kernel
theorem dX6_countWrongShows_32 : decode cX6_countWrongShows 32 = .ok (.iload_n 1, 1) := by decide +kernel
theorem dX6_countWrongShows_33 : decode cX6_countWrongShows 33 = .ok (.ireturn, 1) := by decide +kernel
theorem dJ6_compare_7cf53_0 : decode cJ6_compare_7cf53 0 = .ok (.iload_n 0, 1) := by decide +kernel
theorem dJ6_compare_7cf53_1 : decode cJ6_compare_7cf53 1 = .ok (.iload_n 1, 1) := by decide +kernel
theorem dJ6_compare_7cf53_2 : decode cJ6_compare_7cf53 2 = .ok (.if_icmp .ge 7, 3) := by decide +kernel
theorem dJ6_compare_7cf53_5 : decode cJ6_compare_7cf53 5 = .ok (.iconst (-1), 1) := by decide +kernel
theorem dJ6_compare_7cf53_6 : decode cJ6_compare_7cf53 6 = .ok (.goto 13, 3) := by decide +kernel
theorem dJ6_compare_7cf53_9 : decode cJ6_compare_7cf53 9 = .ok (.iload_n 0, 1) := by decide +kernel
theorem dJ6_compare_7cf53_10 : decode cJ6_compare_7cf53 10 = .ok (.iload_n 1, 1) := by decide +kernel
theorem dJ6_compare_7cf53_11 : decode cJ6_compare_7cf53 11 = .ok (.if_icmp .ne 7, 3) := by decide +kernel
theorem dJ6_compare_7cf53_14 : decode cJ6_compare_7cf53 14 = .ok (.iconst 0, 1) := by decide +kernel
theorem dJ6_compare_7cf53_15 : decode cJ6_compare_7cf53 15 = .ok (.goto 4, 3) := by decide +kernel
theorem dJ6_compare_7cf53_18 : decode cJ6_compare_7cf53 18 = .ok (.iconst 1, 1) := by decide +kernel
theorem dJ6_compare_7cf53_19 : decode cJ6_compare_7cf53 19 = .ok (.ireturn, 1) := by decide +kernel
theorem dJ9_floorDiv_7cf53_0 : decode cJ9_floorDiv_7cf53 0 = .ok (.iload_n 0, 1) := by decide +kernel
theorem dJ9_floorDiv_7cf53_1 : decode cJ9_floorDiv_7cf53 1 = .ok (.iload_n 1, 1) := by decide +kernel
theorem dJ9_floorDiv_7cf53_2 : decode cJ9_floorDiv_7cf53 2 = .ok (.idiv, 1) := by decide +kernel
theorem dJ9_floorDiv_7cf53_3 : decode cJ9_floorDiv_7cf53 3 = .ok (.istore_n 2, 1) := by decide +kernel
theorem dJ9_floorDiv_7cf53_4 : decode cJ9_floorDiv_7cf53 4 = .ok (.iload_n 0, 1) := by decide +kernel
theorem dJ9_floorDiv_7cf53_5 : decode cJ9_floorDiv_7cf53 5 = .ok (.iload_n 1, 1) := by decide +kernel
theorem dJ9_floorDiv_7cf53_6 : decode cJ9_floorDiv_7cf53 6 = .ok (.ixor, 1) := by decide +kernel
theorem dJ9_floorDiv_7cf53_7 : decode cJ9_floorDiv_7cf53 7 = .ok (.ifCond .ge 14, 3) := by decide +kernel
theorem dJ9_floorDiv_7cf53_10 : decode cJ9_floorDiv_7cf53 10 = .ok (.iload_n 2, 1) := by decide +kernel
theorem dJ9_floorDiv_7cf53_11 : decode cJ9_floorDiv_7cf53 11 = .ok (.iload_n 1, 1) := by decide +kernel
theorem dJ9_floorDiv_7cf53_12 : decode cJ9_floorDiv_7cf53 12 = .ok (.imul, 1) := by decide +kernel
theorem dJ9_floorDiv_7cf53_13 : decode cJ9_floorDiv_7cf53 13 = .ok (.iload_n 0, 1) := by decide +kernel
theorem dJ9_floorDiv_7cf53_14 : decode cJ9_floorDiv_7cf53 14 = .ok (.if_icmp .eq 7, 3) := by decide +kernel
theorem dJ9_floorDiv_7cf53_17 : decode cJ9_floorDiv_7cf53 17 = .ok (.iload_n 2, 1) := by decide +kernel
theorem dJ9_floorDiv_7cf53_18 : decode cJ9_floorDiv_7cf53 18 = .ok (.iconst 1, 1) := by decide +kernel
theorem dJ9_floorDiv_7cf53_19 : decode cJ9_floorDiv_7cf53 19 = .ok (.isub, 1) := by decide +kernel
theorem dJ9_floorDiv_7cf53_20 : decode cJ9_floorDiv_7cf53 20 = .ok (.ireturn, 1) := by decide +kernel
theorem dJ9_floorDiv_7cf53_21 : decode cJ9_floorDiv_7cf53 21 = .ok (.iload_n 2, 1) := by decide +kernel
theorem dJ9_floorDiv_7cf53_22 : decode cJ9_floorDiv_7cf53 22 = .ok (.ireturn, 1) := by decide +kernel
theorem dJ9_floorMod_7cf53_0 : decode cJ9_floorMod_7cf53 0 = .ok (.iload_n 0, 1) := by decide +kernel
theorem dJ9_floorMod_7cf53_1 : decode cJ9_floorMod_7cf53 1 = .ok (.iload_n 1, 1) := by decide +kernel
theorem dJ9_floorMod_7cf53_2 : decode cJ9_floorMod_7cf53 2 = .ok (.irem, 1) := by decide +kernel
theorem dJ9_floorMod_7cf53_3 : decode cJ9_floorMod_7cf53 3 = .ok (.istore_n 2, 1) := by decide +kernel
theorem dJ9_floorMod_7cf53_4 : decode cJ9_floorMod_7cf53 4 = .ok (.iload_n 0, 1) := by decide +kernel
theorem dJ9_floorMod_7cf53_5 : decode cJ9_floorMod_7cf53 5 = .ok (.iload_n 1, 1) := by decide +kernel
theorem dJ9_floorMod_7cf53_6 : decode cJ9_floorMod_7cf53 6 = .ok (.ixor, 1) := by decide +kernel
theorem dJ9_floorMod_7cf53_7 : decode cJ9_floorMod_7cf53 7 = .ok (.ifCond .ge 11, 3) := by decide +kernel
theorem dJ9_floorMod_7cf53_10 : decode cJ9_floorMod_7cf53 10 = .ok (.iload_n 2, 1) := by decide +kernel
theorem dJ9_floorMod_7cf53_11 : decode cJ9_floorMod_7cf53 11 = .ok (.ifCond .eq 7, 3) := by decide +kernel
theorem dJ9_floorMod_7cf53_14 : decode cJ9_floorMod_7cf53 14 = .ok (.iload_n 2, 1) := by decide +kernel
theorem dJ9_floorMod_7cf53_15 : decode cJ9_floorMod_7cf53 15 = .ok (.iload_n 1, 1) := by decide +kernel
theorem dJ9_floorMod_7cf53_16 : decode cJ9_floorMod_7cf53 16 = .ok (.iadd, 1) := by decide +kernel
theorem dJ9_floorMod_7cf53_17 : decode cJ9_floorMod_7cf53 17 = .ok (.ireturn, 1) := by decide +kernel
theorem dJ9_floorMod_7cf53_18 : decode cJ9_floorMod_7cf53 18 = .ok (.iload_n 2, 1) := by decide +kernel
theorem dJ9_floorMod_7cf53_19 : decode cJ9_floorMod_7cf53 19 = .ok (.ireturn, 1) := by decide +kernel
theorem dJ9_max_7cf53_0 : decode cJ9_max_7cf53 0 = .ok (.iload_n 0, 1) := by decide +kernel
theorem dJ9_max_7cf53_1 : decode cJ9_max_7cf53 1 = .ok (.iload_n 1, 1) := by decide +kernel
theorem dJ9_max_7cf53_2 : decode cJ9_max_7cf53 2 = .ok (.if_icmp .lt 7, 3) := by decide +kernel
theorem dJ9_max_7cf53_5 : decode cJ9_max_7cf53 5 = .ok (.iload_n 0, 1) := by decide +kernel
theorem dJ9_max_7cf53_6 : decode cJ9_max_7cf53 6 = .ok (.goto 4, 3) := by decide +kernel
theorem dJ9_max_7cf53_9 : decode cJ9_max_7cf53 9 = .ok (.iload_n 1, 1) := by decide +kernel
theorem dJ9_max_7cf53_10 : decode cJ9_max_7cf53 10 = .ok (.ireturn, 1) := by decide +kernel
theorem dJ9_min_7cf53_0 : decode cJ9_min_7cf53 0 = .ok (.iload_n 0, 1) := by decide +kernel
theorem dJ9_min_7cf53_1 : decode cJ9_min_7cf53 1 = .ok (.iload_n 1, 1) := by decide +kernel
theorem dJ9_min_7cf53_2 : decode cJ9_min_7cf53 2 = .ok (.if_icmp .gt 7, 3) := by decide +kernel
theorem dJ9_min_7cf53_5 : decode cJ9_min_7cf53 5 = .ok (.iload_n 0, 1) := by decide +kernel
theorem dJ9_min_7cf53_6 : decode cJ9_min_7cf53 6 = .ok (.goto 4, 3) := by decide +kernel
theorem dJ9_min_7cf53_9 : decode cJ9_min_7cf53 9 = .ok (.iload_n 1, 1) := by decide +kernel
theorem dJ9_min_7cf53_10 : decode cJ9_min_7cf53 10 = .ok (.ireturn, 1) := by decide +kernel
theorem dJ7_fill_53178_0 : decode cJ7_fill_53178 0 = .ok (.iconst 0, 1) := by decide +kernel
theorem dJ7_fill_53178_1 : decode cJ7_fill_53178 1 = .ok (.istore_n 2, 1) := by decide +kernel
theorem dJ7_fill_53178_2 : decode cJ7_fill_53178 2 = .ok (.aload_n 0, 1) := by decide +kernel
theorem dJ7_fill_53178_3 : decode cJ7_fill_53178 3 = .ok (.arraylength, 1) := by decide +kernel
theorem dJ7_fill_53178_4 : decode cJ7_fill_53178 4 = .ok (.istore_n 3, 1) := by decide +kernel
theorem dJ7_fill_53178_5 : decode cJ7_fill_53178 5 = .ok (.iload_n 2, 1) := by decide +kernel
theorem dJ7_fill_53178_6 : decode cJ7_fill_53178 6 = .ok (.iload_n 3, 1) := by decide +kernel
theorem dJ7_fill_53178_7 : decode cJ7_fill_53178 7 = .ok (.if_icmp .ge 13, 3) := by decide +kernel
theorem dJ7_fill_53178_10 : decode cJ7_fill_53178 10 = .ok (.aload_n 0, 1) := by decide +kernel
theorem dJ7_fill_53178_11 : decode cJ7_fill_53178 11 = .ok (.iload_n 2, 1) := by decide +kernel
theorem dJ7_fill_53178_12 : decode cJ7_fill_53178 12 = .ok (.iload_n 1, 1) := by decide +kernel
theorem dJ7_fill_53178_13 : decode cJ7_fill_53178 13 = .ok (.iastore, 1) := by decide +kernel
theorem dJ7_fill_53178_14 : decode cJ7_fill_53178 14 = .ok (.iinc 2 1, 3) := by decide +kernel
theorem dJ7_fill_53178_17 : decode cJ7_fill_53178 17 = .ok (.goto (-12), 3) := by decide +kernel
theorem dJ7_fill_53178_20 : decode cJ7_fill_53178 20 = .ok (.return_, 1) := by decide +kernel
theorem dL_draws_0 : decode cL_draws 0 = .ok (.aload_n 0, 1) := by decide +kernel
theorem dL_draws_1 : decode cL_draws 1 = .ok (.iload_n 1, 1) := by decide +kernel
theorem dL_draws_2 : decode cL_draws 2 = .ok (.iload_n 2, 1) := by decide +kernel
theorem dL_draws_3 : decode cL_draws 3 = .ok (.iload_n 3, 1) := by decide +kernel
theorem dL_draws_4 : decode cL_draws 4 = .ok (.invokevirtual 7, 3) := by decide +kernel
theorem dL_draws_7 : decode cL_draws 7 = .ok (.ireturn, 1) := by decide +kernel
theorem dL_draws_8 : decode cL_draws 8 = .ok (.astore 4, 2) := by decide +kernel
theorem dL_draws_10 : decode cL_draws 10 = .ok (.bipush (-2), 2) := by decide +kernel
theorem dL_draws_12 : decode cL_draws 12 = .ok (.ireturn, 1) := by decide +kernel
theorem dL_draws_13 : decode cL_draws 13 = .ok (.astore 4, 2) := by decide +kernel
theorem dL_draws_15 : decode cL_draws 15 = .ok (.bipush (-3), 2) := by decide +kernel
theorem dL_draws_17 : decode cL_draws 17 = .ok (.ireturn, 1) := by decide +kernel
theorem dL_undoes_0 : decode cL_undoes 0 = .ok (.aload_n 0, 1) := by decide +kernel
theorem dL_undoes_1 : decode cL_undoes 1 = .ok (.invokevirtual 17, 3) := by decide +kernel
theorem dL_undoes_4 : decode cL_undoes 4 = .ok (.ireturn, 1) := by decide +kernel
theorem dL_undoes_5 : decode cL_undoes 5 = .ok (.astore_n 1, 1) := by decide +kernel
theorem dL_undoes_6 : decode cL_undoes 6 = .ok (.bipush (-3), 2) := by decide +kernel
theorem dL_undoes_8 : decode cL_undoes 8 = .ok (.ireturn, 1) := by decide +kernel
theorem dL_plans_0 : decode cL_plans 0 = .ok (.aload_n 0, 1) := by decide +kernel
theorem dL_plans_1 : decode cL_plans 1 = .ok (.iload_n 1, 1) := by decide +kernel
theorem dL_plans_2 : decode cL_plans 2 = .ok (.iload_n 2, 1) := by decide +kernel
theorem dL_plans_3 : decode cL_plans 3 = .ok (.iload_n 3, 1) := by decide +kernel
theorem dL_plans_4 : decode cL_plans 4 = .ok (.iload 4, 2) := by decide +kernel
theorem dL_plans_6 : decode cL_plans 6 = .ok (.invokevirtual 21, 3) := by decide +kernel
theorem dL_plans_9 : decode cL_plans 9 = .ok (.ireturn, 1) := by decide +kernel
theorem dL_plans_10 : decode cL_plans 10 = .ok (.astore 5, 2) := by decide +kernel
theorem dL_plans_12 : decode cL_plans 12 = .ok (.bipush (-3), 2) := by decide +kernel
theorem dL_plans_14 : decode cL_plans 14 = .ok (.ireturn, 1) := by decide +kernel
theorem dL_print_0 : decode cL_print 0 = .ok (.ldc2_w 25, 3) := by decide +kernel
theorem dL_print_3 : decode cL_print 3 = .ok (.lstore_n 1, 1) := by decide +kernel
theorem dL_print_4 : decode cL_print 4 = .ok (.iconst 0, 1) := by decide +kernel
theorem dL_print_5 : decode cL_print 5 = .ok (.istore_n 3, 1) := by decide +kernel
theorem dL_print_6 : decode cL_print 6 = .ok (.iload_n 3, 1) := by decide +kernel
theorem dL_print_7 : decode cL_print 7 = .ok (.aload_n 0, 1) := by decide +kernel
theorem dL_print_8 : decode cL_print 8 = .ok (.invokevirtual 27, 3) := by decide +kernel
theorem dL_print_11 : decode cL_print 11 = .ok (.if_icmp .ge 35, 3) := by decide +kernel
theorem dL_print_14 : decode cL_print 14 = .ok (.lload_n 1, 1) := by decide +kernel
theorem dL_print_15 : decode cL_print 15 = .ok (.ldc2_w 30, 3) := by decide +kernel
theorem dL_print_18 : decode cL_print 18 = .ok (.lmul, 1) := by decide +kernel
theorem dL_print_19 : decode cL_print 19 = .ok (.aload_n 0, 1) := by decide +kernel
theorem dL_print_20 : decode cL_print 20 = .ok (.iload_n 3, 1) := by decide +kernel
theorem dL_print_21 : decode cL_print 21 = .ok (.invokevirtual 32, 3) := by decide +kernel
theorem dL_print_24 : decode cL_print 24 = .ok (.i2l, 1) := by decide +kernel
theorem dL_print_25 : decode cL_print 25 = .ok (.ladd, 1) := by decide +kernel
theorem dL_print_26 : decode cL_print 26 = .ok (.lstore_n 1, 1) := by decide +kernel
theorem dL_print_27 : decode cL_print 27 = .ok (.lload_n 1, 1) := by decide +kernel
theorem dL_print_28 : decode cL_print 28 = .ok (.ldc2_w 36, 3) := by decide +kernel
theorem dL_print_31 : decode cL_print 31 = .ok (.lmul, 1) := by decide +kernel
theorem dL_print_32 : decode cL_print 32 = .ok (.aload_n 0, 1) := by decide +kernel
theorem dL_print_33 : decode cL_print 33 = .ok (.iload_n 3, 1) := by decide +kernel
theorem dL_print_34 : decode cL_print 34 = .ok (.invokevirtual 38, 3) := by decide +kernel
theorem dL_print_37 : decode cL_print 37 = .ok (.i2l, 1) := by decide +kernel
theorem dL_print_38 : decode cL_print 38 = .ok (.ladd, 1) := by decide +kernel
theorem dL_print_39 : decode cL_print 39 = .ok (.lstore_n 1, 1) := by decide +kernel
theorem dL_print_40 : decode cL_print 40 = .ok (.iinc 3 1, 3) := by decide +kernel
theorem dL_print_43 : decode cL_print 43 = .ok (.goto (-37), 3) := by decide +kernel
theorem dL_print_46 : decode cL_print 46 = .ok (.iconst 0, 1) := by decide +kernel
theorem dL_print_47 : decode cL_print 47 = .ok (.istore_n 3, 1) := by decide +kernel
theorem dL_print_48 : decode cL_print 48 = .ok (.iload_n 3, 1) := by decide +kernel
theorem dL_print_49 : decode cL_print 49 = .ok (.aload_n 0, 1) := by decide +kernel
theorem dL_print_50 : decode cL_print 50 = .ok (.invokevirtual 41, 3) := by decide +kernel
theorem dL_print_53 : decode cL_print 53 = .ok (.if_icmp .ge 36, 3) := by decide +kernel
theorem dL_print_56 : decode cL_print 56 = .ok (.lload_n 1, 1) := by decide +kernel
theorem dL_print_57 : decode cL_print 57 = .ok (.ldc2_w 36, 3) := by decide +kernel
theorem dL_print_60 : decode cL_print 60 = .ok (.lmul, 1) := by decide +kernel
theorem dL_print_61 : decode cL_print 61 = .ok (.aload_n 0, 1) := by decide +kernel
theorem dL_print_62 : decode cL_print 62 = .ok (.iload_n 3, 1) := by decide +kernel
theorem dL_print_63 : decode cL_print 63 = .ok (.invokevirtual 44, 3) := by decide +kernel
theorem dL_print_66 : decode cL_print 66 = .ok (.i2l, 1) := by decide +kernel
theorem dL_print_67 : decode cL_print 67 = .ok (.ladd, 1) := by decide +kernel
theorem dL_print_68 : decode cL_print 68 = .ok (.lstore_n 1, 1) := by decide +kernel
theorem dL_print_69 : decode cL_print 69 = .ok (.lload_n 1, 1) := by decide +kernel
theorem dL_print_70 : decode cL_print 70 = .ok (.ldc2_w 47, 3) := by decide +kernel
theorem dL_print_73 : decode cL_print 73 = .ok (.lmul, 1) := by decide +kernel
theorem dL_print_74 : decode cL_print 74 = .ok (.aload_n 0, 1) := by decide +kernel
theorem dL_print_75 : decode cL_print 75 = .ok (.iload_n 3, 1) := by decide +kernel
theorem dL_print_76 : decode cL_print 76 = .ok (.iload_n 3, 1) := by decide +kernel
theorem dL_print_77 : decode cL_print 77 = .ok (.invokevirtual 49, 3) := by decide +kernel
theorem dL_print_80 : decode cL_print 80 = .ok (.i2l, 1) := by decide +kernel
theorem dL_print_81 : decode cL_print 81 = .ok (.ladd, 1) := by decide +kernel
theorem dL_print_82 : decode cL_print 82 = .ok (.lstore_n 1, 1) := by decide +kernel
theorem dL_print_83 : decode cL_print 83 = .ok (.iinc 3 1, 3) := by decide +kernel
theorem dL_print_86 : decode cL_print 86 = .ok (.goto (-38), 3) := by decide +kernel
theorem dL_print_89 : decode cL_print 89 = .ok (.lload_n 1, 1) := by decide +kernel
theorem dL_print_90 : decode cL_print 90 = .ok (.lreturn, 1) := by decide +kernel
theorem dL_areNames_0 : decode cL_areNames 0 = .ok (.iconst 0, 1) := by decide +kernel
theorem dL_areNames_1 : decode cL_areNames 1 = .ok (.istore_n 1, 1) := by decide +kernel
theorem dL_areNames_2 : decode cL_areNames 2 = .ok (.iconst 1, 1) := by decide +kernel
theorem dL_areNames_3 : decode cL_areNames 3 = .ok (.istore_n 2, 1) := by decide +kernel
theorem dL_areNames_4 : decode cL_areNames 4 = .ok (.iconst 0, 1) := by decide +kernel
theorem dL_areNames_5 : decode cL_areNames 5 = .ok (.istore_n 3, 1) := by decide +kernel
theorem dL_areNames_6 : decode cL_areNames 6 = .ok (.iload_n 3, 1) := by decide +kernel
theorem dL_areNames_7 : decode cL_areNames 7 = .ok (.aload_n 0, 1) := by decide +kernel
theorem dL_areNames_8 : decode cL_areNames 8 = .ok (.invokevirtual 41, 3) := by decide +kernel
theorem dL_areNames_11 : decode cL_areNames 11 = .ok (.if_icmp .ge 68, 3) := by decide +kernel
theorem dL_areNames_14 : decode cL_areNames 14 = .ok (.iload_n 2, 1) := by decide +kernel
theorem dL_areNames_15 : decode cL_areNames 15 = .ok (.ifCond .eq 64, 3) := by decide +kernel
theorem dL_areNames_18 : decode cL_areNames 18 = .ok (.aload_n 0, 1) := by decide +kernel
theorem dL_areNames_19 : decode cL_areNames 19 = .ok (.iload_n 3, 1) := by decide +kernel
theorem dL_areNames_20 : decode cL_areNames 20 = .ok (.invokevirtual 53, 3) := by decide +kernel
theorem dL_areNames_23 : decode cL_areNames 23 = .ok (.istore 4, 2) := by decide +kernel
theorem dL_areNames_25 : decode cL_areNames 25 = .ok (.iload 4, 2) := by decide +kernel
theorem dL_areNames_27 : decode cL_areNames 27 = .ok (.iconst (-1), 1) := by decide +kernel
theorem dL_areNames_28 : decode cL_areNames 28 = .ok (.if_icmp .eq 22, 3) := by decide +kernel
theorem dL_areNames_31 : decode cL_areNames 31 = .ok (.iload_n 1, 1) := by decide +kernel
theorem dL_areNames_32 : decode cL_areNames 32 = .ok (.iload 4, 2) := by decide +kernel
theorem dL_areNames_34 : decode cL_areNames 34 = .ok (.ishr, 1) := by decide +kernel
theorem dL_areNames_35 : decode cL_areNames 35 = .ok (.iconst 1, 1) := by decide +kernel
theorem dL_areNames_36 : decode cL_areNames 36 = .ok (.iand, 1) := by decide +kernel
theorem dL_areNames_37 : decode cL_areNames 37 = .ok (.ifCond .ne 17, 3) := by decide +kernel
theorem dL_areNames_40 : decode cL_areNames 40 = .ok (.aload_n 0, 1) := by decide +kernel
theorem dL_areNames_41 : decode cL_areNames 41 = .ok (.iload_n 3, 1) := by decide +kernel
theorem dL_areNames_42 : decode cL_areNames 42 = .ok (.iload 4, 2) := by decide +kernel
theorem dL_areNames_44 : decode cL_areNames 44 = .ok (.invokevirtual 56, 3) := by decide +kernel
theorem dL_areNames_47 : decode cL_areNames 47 = .ok (.ifCond .le 7, 3) := by decide +kernel
theorem dL_areNames_50 : decode cL_areNames 50 = .ok (.iconst 1, 1) := by decide +kernel
theorem dL_areNames_51 : decode cL_areNames 51 = .ok (.goto 4, 3) := by decide +kernel
theorem dL_areNames_54 : decode cL_areNames 54 = .ok (.iconst 0, 1) := by decide +kernel
theorem dL_areNames_55 : decode cL_areNames 55 = .ok (.istore_n 2, 1) := by decide +kernel
theorem dL_areNames_56 : decode cL_areNames 56 = .ok (.iload_n 1, 1) := by decide +kernel
theorem dL_areNames_57 : decode cL_areNames 57 = .ok (.iload 4, 2) := by decide +kernel
theorem dL_areNames_59 : decode cL_areNames 59 = .ok (.iconst (-1), 1) := by decide +kernel
theorem dL_areNames_60 : decode cL_areNames 60 = .ok (.if_icmp .ne 7, 3) := by decide +kernel
theorem dL_areNames_63 : decode cL_areNames 63 = .ok (.iconst 0, 1) := by decide +kernel
theorem dL_areNames_64 : decode cL_areNames 64 = .ok (.goto 7, 3) := by decide +kernel
theorem dL_areNames_67 : decode cL_areNames 67 = .ok (.iconst 1, 1) := by decide +kernel
theorem dL_areNames_68 : decode cL_areNames 68 = .ok (.iload 4, 2) := by decide +kernel
theorem dL_areNames_70 : decode cL_areNames 70 = .ok (.ishl, 1) := by decide +kernel
theorem dL_areNames_71 : decode cL_areNames 71 = .ok (.ior, 1) := by decide +kernel
theorem dL_areNames_72 : decode cL_areNames 72 = .ok (.istore_n 1, 1) := by decide +kernel
theorem dL_areNames_73 : decode cL_areNames 73 = .ok (.iinc 3 1, 3) := by decide +kernel
theorem dL_areNames_76 : decode cL_areNames 76 = .ok (.goto (-70), 3) := by decide +kernel
theorem dL_areNames_79 : decode cL_areNames 79 = .ok (.iconst 0, 1) := by decide +kernel
theorem dL_areNames_80 : decode cL_areNames 80 = .ok (.istore_n 3, 1) := by decide +kernel
theorem dL_areNames_81 : decode cL_areNames 81 = .ok (.iload_n 3, 1) := by decide +kernel
theorem dL_areNames_82 : decode cL_areNames 82 = .ok (.aload_n 0, 1) := by decide +kernel
theorem dL_areNames_83 : decode cL_areNames 83 = .ok (.invokevirtual 41, 3) := by decide +kernel
theorem dL_areNames_86 : decode cL_areNames 86 = .ok (.if_icmp .ge 131, 3) := by decide +kernel
theorem dL_areNames_89 : decode cL_areNames 89 = .ok (.iload_n 2, 1) := by decide +kernel
theorem dL_areNames_90 : decode cL_areNames 90 = .ok (.ifCond .eq 127, 3) := by decide +kernel
theorem dL_areNames_93 : decode cL_areNames 93 = .ok (.aload_n 0, 1) := by decide +kernel
theorem dL_areNames_94 : decode cL_areNames 94 = .ok (.iload_n 3, 1) := by decide +kernel
theorem dL_areNames_95 : decode cL_areNames 95 = .ok (.invokevirtual 53, 3) := by decide +kernel
theorem dL_areNames_98 : decode cL_areNames 98 = .ok (.istore 4, 2) := by decide +kernel
theorem dL_areNames_100 : decode cL_areNames 100 = .ok (.iconst 0, 1) := by decide +kernel
theorem dL_areNames_101 : decode cL_areNames 101 = .ok (.istore 5, 2) := by decide +kernel
theorem dL_areNames_103 : decode cL_areNames 103 = .ok (.iconst 0, 1) := by decide +kernel
theorem dL_areNames_104 : decode cL_areNames 104 = .ok (.istore 6, 2) := by decide +kernel
theorem dL_areNames_106 : decode cL_areNames 106 = .ok (.iload 6, 2) := by decide +kernel
theorem dL_areNames_108 : decode cL_areNames 108 = .ok (.bipush 10, 2) := by decide +kernel
theorem dL_areNames_110 : decode cL_areNames 110 = .ok (.if_icmp .ge 84, 3) := by decide +kernel
theorem dL_areNames_113 : decode cL_areNames 113 = .ok (.iload 5, 2) := by decide +kernel
theorem dL_areNames_115 : decode cL_areNames 115 = .ok (.aload_n 0, 1) := by decide +kernel
theorem dL_areNames_116 : decode cL_areNames 116 = .ok (.iload_n 3, 1) := by decide +kernel
theorem dL_areNames_117 : decode cL_areNames 117 = .ok (.iload 6, 2) := by decide +kernel
theorem dL_areNames_119 : decode cL_areNames 119 = .ok (.invokevirtual 56, 3) := by decide +kernel
theorem dL_areNames_122 : decode cL_areNames 122 = .ok (.iadd, 1) := by decide +kernel
theorem dL_areNames_123 : decode cL_areNames 123 = .ok (.istore 5, 2) := by decide +kernel
theorem dL_areNames_125 : decode cL_areNames 125 = .ok (.iload_n 1, 1) := by decide +kernel
theorem dL_areNames_126 : decode cL_areNames 126 = .ok (.iload 6, 2) := by decide +kernel
theorem dL_areNames_128 : decode cL_areNames 128 = .ok (.ishr, 1) := by decide +kernel
theorem dL_areNames_129 : decode cL_areNames 129 = .ok (.iconst 1, 1) := by decide +kernel
theorem dL_areNames_130 : decode cL_areNames 130 = .ok (.iand, 1) := by decide +kernel
theorem dL_areNames_131 : decode cL_areNames 131 = .ok (.ifCond .ne 7, 3) := by decide +kernel
theorem dL_areNames_134 : decode cL_areNames 134 = .ok (.iconst 1, 1) := by decide +kernel
theorem dL_areNames_135 : decode cL_areNames 135 = .ok (.goto 4, 3) := by decide +kernel
theorem dL_areNames_138 : decode cL_areNames 138 = .ok (.iconst 0, 1) := by decide +kernel
theorem dL_areNames_139 : decode cL_areNames 139 = .ok (.istore 7, 2) := by decide +kernel
theorem dL_areNames_141 : decode cL_areNames 141 = .ok (.iload_n 2, 1) := by decide +kernel
theorem dL_areNames_142 : decode cL_areNames 142 = .ok (.ifCond .eq 44, 3) := by decide +kernel
theorem dL_areNames_145 : decode cL_areNames 145 = .ok (.iload 7, 2) := by decide +kernel
theorem dL_areNames_147 : decode cL_areNames 147 = .ok (.ifCond .eq 35, 3) := by decide +kernel
theorem dL_areNames_150 : decode cL_areNames 150 = .ok (.aload_n 0, 1) := by decide +kernel
theorem dL_areNames_151 : decode cL_areNames 151 = .ok (.iload_n 3, 1) := by decide +kernel
theorem dL_areNames_152 : decode cL_areNames 152 = .ok (.iload 6, 2) := by decide +kernel
theorem dL_areNames_154 : decode cL_areNames 154 = .ok (.invokevirtual 56, 3) := by decide +kernel
theorem dL_areNames_157 : decode cL_areNames 157 = .ok (.ifCond .eq 25, 3) := by decide +kernel
theorem dL_areNames_160 : decode cL_areNames 160 = .ok (.iload 4, 2) := by decide +kernel
theorem dL_areNames_162 : decode cL_areNames 162 = .ok (.ifCond .lt 24, 3) := by decide +kernel
theorem dL_areNames_165 : decode cL_areNames 165 = .ok (.aload_n 0, 1) := by decide +kernel
theorem dL_areNames_166 : decode cL_areNames 166 = .ok (.iload_n 3, 1) := by decide +kernel
theorem dL_areNames_167 : decode cL_areNames 167 = .ok (.iload 4, 2) := by decide +kernel
theorem dL_areNames_169 : decode cL_areNames 169 = .ok (.invokevirtual 56, 3) := by decide +kernel
theorem dL_areNames_172 : decode cL_areNames 172 = .ok (.aload_n 0, 1) := by decide +kernel
theorem dL_areNames_173 : decode cL_areNames 173 = .ok (.iload_n 3, 1) := by decide +kernel
theorem dL_areNames_174 : decode cL_areNames 174 = .ok (.iload 6, 2) := by decide +kernel
theorem dL_areNames_176 : decode cL_areNames 176 = .ok (.invokevirtual 56, 3) := by decide +kernel
theorem dL_areNames_179 : decode cL_areNames 179 = .ok (.if_icmp .lt 7, 3) := by decide +kernel
theorem dL_areNames_182 : decode cL_areNames 182 = .ok (.iconst 1, 1) := by decide +kernel
theorem dL_areNames_183 : decode cL_areNames 183 = .ok (.goto 4, 3) := by decide +kernel
theorem dL_areNames_186 : decode cL_areNames 186 = .ok (.iconst 0, 1) := by decide +kernel
theorem dL_areNames_187 : decode cL_areNames 187 = .ok (.istore_n 2, 1) := by decide +kernel
theorem dL_areNames_188 : decode cL_areNames 188 = .ok (.iinc 6 1, 3) := by decide +kernel
theorem dL_areNames_191 : decode cL_areNames 191 = .ok (.goto (-85), 3) := by decide +kernel
theorem dL_areNames_194 : decode cL_areNames 194 = .ok (.iload_n 2, 1) := by decide +kernel
theorem dL_areNames_195 : decode cL_areNames 195 = .ok (.ifCond .eq 14, 3) := by decide +kernel
theorem dL_areNames_198 : decode cL_areNames 198 = .ok (.iload 5, 2) := by decide +kernel
theorem dL_areNames_200 : decode cL_areNames 200 = .ok (.bipush 6, 2) := by decide +kernel
theorem dL_areNames_202 : decode cL_areNames 202 = .ok (.if_icmp .gt 7, 3) := by decide +kernel
theorem dL_areNames_205 : decode cL_areNames 205 = .ok (.iconst 1, 1) := by decide +kernel
theorem dL_areNames_206 : decode cL_areNames 206 = .ok (.goto 4, 3) := by decide +kernel
theorem dL_areNames_209 : decode cL_areNames 209 = .ok (.iconst 0, 1) := by decide +kernel
theorem dL_areNames_210 : decode cL_areNames 210 = .ok (.istore_n 2, 1) := by decide +kernel
theorem dL_areNames_211 : decode cL_areNames 211 = .ok (.iinc 3 1, 3) := by decide +kernel
theorem dL_areNames_214 : decode cL_areNames 214 = .ok (.goto (-133), 3) := by decide +kernel
theorem dL_areNames_217 : decode cL_areNames 217 = .ok (.iload_n 2, 1) := by decide +kernel
theorem dL_areNames_218 : decode cL_areNames 218 = .ok (.ireturn, 1) := by decide +kernel
theorem dL_areHours_0 : decode cL_areHours 0 = .ok (.aload_n 0, 1) := by decide +kernel
theorem dL_areHours_1 : decode cL_areHours 1 = .ok (.iload_n 1, 1) := by decide +kernel
theorem dL_areHours_2 : decode cL_areHours 2 = .ok (.iload_n 2, 1) := by decide +kernel
theorem dL_areHours_3 : decode cL_areHours 3 = .ok (.iload_n 3, 1) := by decide +kernel
theorem dL_areHours_4 : decode cL_areHours 4 = .ok (.invokevirtual 59, 3) := by decide +kernel
theorem dL_areHours_7 : decode cL_areHours 7 = .ok (.istore 5, 2) := by decide +kernel
theorem dL_areHours_9 : decode cL_areHours 9 = .ok (.aload_n 0, 1) := by decide +kernel
theorem dL_areHours_10 : decode cL_areHours 10 = .ok (.iload_n 1, 1) := by decide +kernel
theorem dL_areHours_11 : decode cL_areHours 11 = .ok (.iload_n 2, 1) := by decide +kernel
theorem dL_areHours_12 : decode cL_areHours 12 = .ok (.iload_n 3, 1) := by decide +kernel
theorem dL_areHours_13 : decode cL_areHours 13 = .ok (.invokevirtual 62, 3) := by decide +kernel
theorem dL_areHours_16 : decode cL_areHours 16 = .ok (.istore 6, 2) := by decide +kernel
theorem dL_areHours_18 : decode cL_areHours 18 = .ok (.iload 5, 2) := by decide +kernel
theorem dL_areHours_20 : decode cL_areHours 20 = .ok (.aload_n 0, 1) := by decide +kernel
theorem dL_areHours_21 : decode cL_areHours 21 = .ok (.iload_n 1, 1) := by decide +kernel
theorem dL_areHours_22 : decode cL_areHours 22 = .ok (.iload_n 2, 1) := by decide +kernel
theorem dL_areHours_23 : decode cL_areHours 23 = .ok (.iload_n 3, 1) := by decide +kernel
theorem dL_areHours_24 : decode cL_areHours 24 = .ok (.invokevirtual 65, 3) := by decide +kernel
theorem dL_areHours_27 : decode cL_areHours 27 = .ok (.if_icmp .ne 75, 3) := by decide +kernel
theorem dL_areHours_30 : decode cL_areHours 30 = .ok (.iload 6, 2) := by decide +kernel
theorem dL_areHours_32 : decode cL_areHours 32 = .ok (.iconst (-1), 1) := by decide +kernel
theorem dL_areHours_33 : decode cL_areHours 33 = .ok (.if_icmp .ne 7, 3) := by decide +kernel
theorem dL_areHours_36 : decode cL_areHours 36 = .ok (.iconst 1, 1) := by decide +kernel
theorem dL_areHours_37 : decode cL_areHours 37 = .ok (.goto 4, 3) := by decide +kernel
theorem dL_areHours_40 : decode cL_areHours 40 = .ok (.iconst 0, 1) := by decide +kernel
theorem dL_areHours_41 : decode cL_areHours 41 = .ok (.iload 5, 2) := by decide +kernel
theorem dL_areHours_43 : decode cL_areHours 43 = .ok (.ifCond .ne 7, 3) := by decide +kernel
theorem dL_areHours_46 : decode cL_areHours 46 = .ok (.iconst 1, 1) := by decide +kernel
theorem dL_areHours_47 : decode cL_areHours 47 = .ok (.goto 4, 3) := by decide +kernel
theorem dL_areHours_50 : decode cL_areHours 50 = .ok (.iconst 0, 1) := by decide +kernel
theorem dL_areHours_51 : decode cL_areHours 51 = .ok (.if_icmp .ne 51, 3) := by decide +kernel
theorem dL_areHours_54 : decode cL_areHours 54 = .ok (.iload 6, 2) := by decide +kernel
theorem dL_areHours_56 : decode cL_areHours 56 = .ok (.ifCond .lt 14, 3) := by decide +kernel
theorem dL_areHours_59 : decode cL_areHours 59 = .ok (.iload 5, 2) := by decide +kernel
theorem dL_areHours_61 : decode cL_areHours 61 = .ok (.iload 6, 2) := by decide +kernel
theorem dL_areHours_63 : decode cL_areHours 63 = .ok (.ishr, 1) := by decide +kernel
theorem dL_areHours_64 : decode cL_areHours 64 = .ok (.iconst 1, 1) := by decide +kernel
theorem dL_areHours_65 : decode cL_areHours 65 = .ok (.iand, 1) := by decide +kernel
theorem dL_areHours_66 : decode cL_areHours 66 = .ok (.iconst 1, 1) := by decide +kernel
theorem dL_areHours_67 : decode cL_areHours 67 = .ok (.if_icmp .ne 35, 3) := by decide +kernel
theorem dL_areHours_70 : decode cL_areHours 70 = .ok (.aload_n 0, 1) := by decide +kernel
theorem dL_areHours_71 : decode cL_areHours 71 = .ok (.iload_n 1, 1) := by decide +kernel
theorem dL_areHours_72 : decode cL_areHours 72 = .ok (.iload_n 2, 1) := by decide +kernel
theorem dL_areHours_73 : decode cL_areHours 73 = .ok (.iload_n 3, 1) := by decide +kernel
theorem dL_areHours_74 : decode cL_areHours 74 = .ok (.iload 4, 2) := by decide +kernel
theorem dL_areHours_76 : decode cL_areHours 76 = .ok (.invokevirtual 68, 3) := by decide +kernel
theorem dL_areHours_79 : decode cL_areHours 79 = .ok (.iload 5, 2) := by decide +kernel
theorem dL_areHours_81 : decode cL_areHours 81 = .ok (.iload 4, 2) := by decide +kernel
theorem dL_areHours_83 : decode cL_areHours 83 = .ok (.ishr, 1) := by decide +kernel
theorem dL_areHours_84 : decode cL_areHours 84 = .ok (.iconst 1, 1) := by decide +kernel
theorem dL_areHours_85 : decode cL_areHours 85 = .ok (.iand, 1) := by decide +kernel
theorem dL_areHours_86 : decode cL_areHours 86 = .ok (.iconst 1, 1) := by decide +kernel
theorem dL_areHours_87 : decode cL_areHours 87 = .ok (.if_icmp .ne 7, 3) := by decide +kernel
theorem dL_areHours_90 : decode cL_areHours 90 = .ok (.iconst 1, 1) := by decide +kernel
theorem dL_areHours_91 : decode cL_areHours 91 = .ok (.goto 4, 3) := by decide +kernel
theorem dL_areHours_94 : decode cL_areHours 94 = .ok (.iconst 0, 1) := by decide +kernel
theorem dL_areHours_95 : decode cL_areHours 95 = .ok (.if_icmp .ne 7, 3) := by decide +kernel
theorem dL_areHours_98 : decode cL_areHours 98 = .ok (.iconst 1, 1) := by decide +kernel
theorem dL_areHours_99 : decode cL_areHours 99 = .ok (.goto 4, 3) := by decide +kernel
theorem dL_areHours_102 : decode cL_areHours 102 = .ok (.iconst 0, 1) := by decide +kernel
theorem dL_areHours_103 : decode cL_areHours 103 = .ok (.istore 7, 2) := by decide +kernel
theorem dL_areHours_105 : decode cL_areHours 105 = .ok (.sipush 5000, 3) := by decide +kernel
theorem dL_areHours_108 : decode cL_areHours 108 = .ok (.istore 8, 2) := by decide +kernel
theorem dL_areHours_110 : decode cL_areHours 110 = .ok (.sipush 5000, 3) := by decide +kernel
theorem dL_areHours_113 : decode cL_areHours 113 = .ok (.istore 9, 2) := by decide +kernel
theorem dL_areHours_115 : decode cL_areHours 115 = .ok (.iconst 0, 1) := by decide +kernel
theorem dL_areHours_116 : decode cL_areHours 116 = .ok (.istore 10, 2) := by decide +kernel
theorem dL_areHours_118 : decode cL_areHours 118 = .ok (.iload 10, 2) := by decide +kernel
theorem dL_areHours_120 : decode cL_areHours 120 = .ok (.aload_n 0, 1) := by decide +kernel
theorem dL_areHours_121 : decode cL_areHours 121 = .ok (.invokevirtual 27, 3) := by decide +kernel
theorem dL_areHours_124 : decode cL_areHours 124 = .ok (.if_icmp .ge 86, 3) := by decide +kernel
theorem dL_areHours_127 : decode cL_areHours 127 = .ok (.aload_n 0, 1) := by decide +kernel
theorem dL_areHours_128 : decode cL_areHours 128 = .ok (.iload 10, 2) := by decide +kernel
theorem dL_areHours_130 : decode cL_areHours 130 = .ok (.invokevirtual 38, 3) := by decide +kernel
theorem dL_areHours_133 : decode cL_areHours 133 = .ok (.iload_n 1, 1) := by decide +kernel
theorem dL_areHours_134 : decode cL_areHours 134 = .ok (.if_icmp .ne 70, 3) := by decide +kernel
theorem dL_areHours_137 : decode cL_areHours 137 = .ok (.aload_n 0, 1) := by decide +kernel
theorem dL_areHours_138 : decode cL_areHours 138 = .ok (.iload 10, 2) := by decide +kernel
theorem dL_areHours_140 : decode cL_areHours 140 = .ok (.iload_n 2, 1) := by decide +kernel
theorem dL_areHours_141 : decode cL_areHours 141 = .ok (.iload_n 3, 1) := by decide +kernel
theorem dL_areHours_142 : decode cL_areHours 142 = .ok (.iload 4, 2) := by decide +kernel
theorem dL_areHours_144 : decode cL_areHours 144 = .ok (.invokevirtual 72, 3) := by decide +kernel
theorem dL_areHours_147 : decode cL_areHours 147 = .ok (.istore 11, 2) := by decide +kernel
theorem dL_areHours_149 : decode cL_areHours 149 = .ok (.iload 6, 2) := by decide +kernel
theorem dL_areHours_151 : decode cL_areHours 151 = .ok (.ifCond .ge 9, 3) := by decide +kernel
theorem dL_areHours_154 : decode cL_areHours 154 = .ok (.sipush 5000, 3) := by decide +kernel
theorem dL_areHours_157 : decode cL_areHours 157 = .ok (.goto 13, 3) := by decide +kernel
theorem dL_areHours_160 : decode cL_areHours 160 = .ok (.aload_n 0, 1) := by decide +kernel
theorem dL_areHours_161 : decode cL_areHours 161 = .ok (.iload 10, 2) := by decide +kernel
theorem dL_areHours_163 : decode cL_areHours 163 = .ok (.iload_n 2, 1) := by decide +kernel
theorem dL_areHours_164 : decode cL_areHours 164 = .ok (.iload_n 3, 1) := by decide +kernel
theorem dL_areHours_165 : decode cL_areHours 165 = .ok (.iload 6, 2) := by decide +kernel
theorem dL_areHours_167 : decode cL_areHours 167 = .ok (.invokevirtual 72, 3) := by decide +kernel
theorem dL_areHours_170 : decode cL_areHours 170 = .ok (.istore 12, 2) := by decide +kernel
theorem dL_areHours_172 : decode cL_areHours 172 = .ok (.iload 11, 2) := by decide +kernel
theorem dL_areHours_174 : decode cL_areHours 174 = .ok (.iload 8, 2) := by decide +kernel
theorem dL_areHours_176 : decode cL_areHours 176 = .ok (.if_icmp .ge 8, 3) := by decide +kernel
theorem dL_areHours_179 : decode cL_areHours 179 = .ok (.iload 11, 2) := by decide +kernel
theorem dL_areHours_181 : decode cL_areHours 181 = .ok (.goto 5, 3) := by decide +kernel
theorem dL_areHours_184 : decode cL_areHours 184 = .ok (.iload 8, 2) := by decide +kernel
theorem dL_areHours_186 : decode cL_areHours 186 = .ok (.istore 8, 2) := by decide +kernel
theorem dL_areHours_188 : decode cL_areHours 188 = .ok (.iload 12, 2) := by decide +kernel
theorem dL_areHours_190 : decode cL_areHours 190 = .ok (.iload 9, 2) := by decide +kernel
theorem dL_areHours_192 : decode cL_areHours 192 = .ok (.if_icmp .ge 8, 3) := by decide +kernel
theorem dL_areHours_195 : decode cL_areHours 195 = .ok (.iload 12, 2) := by decide +kernel
theorem dL_areHours_197 : decode cL_areHours 197 = .ok (.goto 5, 3) := by decide +kernel
theorem dL_areHours_200 : decode cL_areHours 200 = .ok (.iload 9, 2) := by decide +kernel
theorem dL_areHours_202 : decode cL_areHours 202 = .ok (.istore 9, 2) := by decide +kernel
theorem dL_areHours_204 : decode cL_areHours 204 = .ok (.iinc 10 1, 3) := by decide +kernel
theorem dL_areHours_207 : decode cL_areHours 207 = .ok (.goto (-89), 3) := by decide +kernel
theorem dL_areHours_210 : decode cL_areHours 210 = .ok (.iload 7, 2) := by decide +kernel
theorem dL_areHours_212 : decode cL_areHours 212 = .ok (.ifCond .eq 76, 3) := by decide +kernel
theorem dL_areHours_215 : decode cL_areHours 215 = .ok (.aload_n 0, 1) := by decide +kernel
theorem dL_areHours_216 : decode cL_areHours 216 = .ok (.iload_n 1, 1) := by decide +kernel
theorem dL_areHours_217 : decode cL_areHours 217 = .ok (.invokevirtual 44, 3) := by decide +kernel
theorem dL_areHours_220 : decode cL_areHours 220 = .ok (.ifCond .le 7, 3) := by decide +kernel
theorem dL_areHours_223 : decode cL_areHours 223 = .ok (.iconst 1, 1) := by decide +kernel
theorem dL_areHours_224 : decode cL_areHours 224 = .ok (.goto 4, 3) := by decide +kernel
theorem dL_areHours_227 : decode cL_areHours 227 = .ok (.iconst 0, 1) := by decide +kernel
theorem dL_areHours_228 : decode cL_areHours 228 = .ok (.iload 8, 2) := by decide +kernel
theorem dL_areHours_230 : decode cL_areHours 230 = .ok (.sipush 5000, 3) := by decide +kernel
theorem dL_areHours_233 : decode cL_areHours 233 = .ok (.if_icmp .ge 7, 3) := by decide +kernel
theorem dL_areHours_236 : decode cL_areHours 236 = .ok (.iconst 1, 1) := by decide +kernel
theorem dL_areHours_237 : decode cL_areHours 237 = .ok (.goto 4, 3) := by decide +kernel
theorem dL_areHours_240 : decode cL_areHours 240 = .ok (.iconst 0, 1) := by decide +kernel
theorem dL_areHours_241 : decode cL_areHours 241 = .ok (.if_icmp .ne 47, 3) := by decide +kernel
theorem dL_areHours_244 : decode cL_areHours 244 = .ok (.iload 5, 2) := by decide +kernel
theorem dL_areHours_246 : decode cL_areHours 246 = .ok (.iload 4, 2) := by decide +kernel
theorem dL_areHours_248 : decode cL_areHours 248 = .ok (.ishr, 1) := by decide +kernel
theorem dL_areHours_249 : decode cL_areHours 249 = .ok (.iconst 1, 1) := by decide +kernel
theorem dL_areHours_250 : decode cL_areHours 250 = .ok (.iand, 1) := by decide +kernel
theorem dL_areHours_251 : decode cL_areHours 251 = .ok (.iload 8, 2) := by decide +kernel
theorem dL_areHours_253 : decode cL_areHours 253 = .ok (.ifCond .le 15, 3) := by decide +kernel
theorem dL_areHours_256 : decode cL_areHours 256 = .ok (.iload 8, 2) := by decide +kernel
theorem dL_areHours_258 : decode cL_areHours 258 = .ok (.sipush 5000, 3) := by decide +kernel
theorem dL_areHours_261 : decode cL_areHours 261 = .ok (.if_icmp .ge 7, 3) := by decide +kernel
theorem dL_areHours_264 : decode cL_areHours 264 = .ok (.iconst 1, 1) := by decide +kernel
theorem dL_areHours_265 : decode cL_areHours 265 = .ok (.goto 4, 3) := by decide +kernel
theorem dL_areHours_268 : decode cL_areHours 268 = .ok (.iconst 0, 1) := by decide +kernel
theorem dL_areHours_269 : decode cL_areHours 269 = .ok (.if_icmp .ne 19, 3) := by decide +kernel
theorem dL_areHours_272 : decode cL_areHours 272 = .ok (.iload 6, 2) := by decide +kernel
theorem dL_areHours_274 : decode cL_areHours 274 = .ok (.ifCond .lt 10, 3) := by decide +kernel
theorem dL_areHours_277 : decode cL_areHours 277 = .ok (.iload 9, 2) := by decide +kernel
theorem dL_areHours_279 : decode cL_areHours 279 = .ok (.iload 8, 2) := by decide +kernel
theorem dL_areHours_281 : decode cL_areHours 281 = .ok (.if_icmp .lt 7, 3) := by decide +kernel
theorem dL_areHours_284 : decode cL_areHours 284 = .ok (.iconst 1, 1) := by decide +kernel
theorem dL_areHours_285 : decode cL_areHours 285 = .ok (.goto 4, 3) := by decide +kernel
theorem dL_areHours_288 : decode cL_areHours 288 = .ok (.iconst 0, 1) := by decide +kernel
theorem dL_areHours_289 : decode cL_areHours 289 = .ok (.ireturn, 1) := by decide +kernel
theorem dL_law_0 : decode cL_law 0 = .ok (.new 8, 3) := by decide +kernel
theorem dL_law_3 : decode cL_law 3 = .ok (.dup, 1) := by decide +kernel
theorem dL_law_4 : decode cL_law 4 = .ok (.invokespecial 75, 3) := by decide +kernel
theorem dL_law_7 : decode cL_law 7 = .ok (.astore_n 1, 1) := by decide +kernel
theorem dL_law_8 : decode cL_law 8 = .ok (.bipush 60, 2) := by decide +kernel
theorem dL_law_10 : decode cL_law 10 = .ok (.newarray .int, 2) := by decide +kernel
theorem dL_law_12 : decode cL_law 12 = .ok (.astore_n 2, 1) := by decide +kernel
theorem dL_law_13 : decode cL_law 13 = .ok (.bipush 64, 2) := by decide +kernel
theorem dL_law_15 : decode cL_law 15 = .ok (.newarray .long, 2) := by decide +kernel
theorem dL_law_17 : decode cL_law 17 = .ok (.astore_n 3, 1) := by decide +kernel
theorem dL_law_18 : decode cL_law 18 = .ok (.iconst 0, 1) := by decide +kernel
theorem dL_law_19 : decode cL_law 19 = .ok (.istore 4, 2) := by decide +kernel
theorem dL_law_21 : decode cL_law 21 = .ok (.iconst 0, 1) := by decide +kernel
theorem dL_law_22 : decode cL_law 22 = .ok (.istore 5, 2) := by decide +kernel
theorem dL_law_24 : decode cL_law 24 = .ok (.aload_n 1, 1) := by decide +kernel
theorem dL_law_25 : decode cL_law 25 = .ok (.invokevirtual 76, 3) := by decide +kernel
theorem dL_law_28 : decode cL_law 28 = .ok (.ifCond .ne 7, 3) := by decide +kernel
theorem dL_law_31 : decode cL_law 31 = .ok (.iconst 1, 1) := by decide +kernel
theorem dL_law_32 : decode cL_law 32 = .ok (.goto 4, 3) := by decide +kernel
theorem dL_law_35 : decode cL_law 35 = .ok (.iconst 0, 1) := by decide +kernel
theorem dL_law_36 : decode cL_law 36 = .ok (.istore 6, 2) := by decide +kernel
theorem dL_law_38 : decode cL_law 38 = .ok (.aload_n 0, 1) := by decide +kernel
theorem dL_law_39 : decode cL_law 39 = .ok (.arraylength, 1) := by decide +kernel
theorem dL_law_40 : decode cL_law 40 = .ok (.bipush 40, 2) := by decide +kernel
theorem dL_law_42 : decode cL_law 42 = .ok (.if_icmp .ge 9, 3) := by decide +kernel
theorem dL_law_45 : decode cL_law 45 = .ok (.sipush 150, 3) := by decide +kernel
theorem dL_law_48 : decode cL_law 48 = .ok (.goto 20, 3) := by decide +kernel
theorem dL_law_51 : decode cL_law 51 = .ok (.aload_n 0, 1) := by decide +kernel
theorem dL_law_52 : decode cL_law 52 = .ok (.arraylength, 1) := by decide +kernel
theorem dL_law_53 : decode cL_law 53 = .ok (.bipush 80, 2) := by decide +kernel
theorem dL_law_55 : decode cL_law 55 = .ok (.if_icmp .ge 10, 3) := by decide +kernel
theorem dL_law_58 : decode cL_law 58 = .ok (.iconst 3, 1) := by decide +kernel
theorem dL_law_59 : decode cL_law 59 = .ok (.aload_n 0, 1) := by decide +kernel
theorem dL_law_60 : decode cL_law 60 = .ok (.arraylength, 1) := by decide +kernel
theorem dL_law_61 : decode cL_law 61 = .ok (.imul, 1) := by decide +kernel
theorem dL_law_62 : decode cL_law 62 = .ok (.goto 6, 3) := by decide +kernel
theorem dL_law_65 : decode cL_law 65 = .ok (.sipush 260, 3) := by decide +kernel
theorem dL_law_68 : decode cL_law 68 = .ok (.istore 7, 2) := by decide +kernel
theorem dL_law_70 : decode cL_law 70 = .ok (.iconst 0, 1) := by decide +kernel
theorem dL_law_71 : decode cL_law 71 = .ok (.istore 8, 2) := by decide +kernel
theorem dL_law_73 : decode cL_law 73 = .ok (.iload 8, 2) := by decide +kernel
theorem dL_law_75 : decode cL_law 75 = .ok (.iload 7, 2) := by decide +kernel
theorem dL_law_77 : decode cL_law 77 = .ok (.if_icmp .ge 1285, 3) := by decide +kernel
theorem dL_law_80 : decode cL_law 80 = .ok (.iload 6, 2) := by decide +kernel
theorem dL_law_82 : decode cL_law 82 = .ok (.ifCond .eq 1280, 3) := by decide +kernel
theorem dL_law_85 : decode cL_law 85 = .ok (.iload 8, 2) := by decide +kernel
theorem dL_law_87 : decode cL_law 87 = .ok (.aload_n 0, 1) := by decide +kernel
theorem dL_law_88 : decode cL_law 88 = .ok (.arraylength, 1) := by decide +kernel
theorem dL_law_89 : decode cL_law 89 = .ok (.if_icmp .ge 10, 3) := by decide +kernel
theorem dL_law_92 : decode cL_law 92 = .ok (.aload_n 0, 1) := by decide +kernel
theorem dL_law_93 : decode cL_law 93 = .ok (.iload 8, 2) := by decide +kernel
theorem dL_law_95 : decode cL_law 95 = .ok (.iaload, 1) := by decide +kernel
theorem dL_law_96 : decode cL_law 96 = .ok (.goto 20, 3) := by decide +kernel
theorem dL_law_99 : decode cL_law 99 = .ok (.ldc 79, 2) := by decide +kernel
theorem dL_law_101 : decode cL_law 101 = .ok (.iload 8, 2) := by decide +kernel
theorem dL_law_103 : decode cL_law 103 = .ok (.imul, 1) := by decide +kernel
theorem dL_law_104 : decode cL_law 104 = .ok (.iload 8, 2) := by decide +kernel
theorem dL_law_106 : decode cL_law 106 = .ok (.imul, 1) := by decide +kernel
theorem dL_law_107 : decode cL_law 107 = .ok (.ldc 80, 2) := by decide +kernel
theorem dL_law_109 : decode cL_law 109 = .ok (.iload 8, 2) := by decide +kernel
theorem dL_law_111 : decode cL_law 111 = .ok (.imul, 1) := by decide +kernel
theorem dL_law_112 : decode cL_law 112 = .ok (.iadd, 1) := by decide +kernel
theorem dL_law_113 : decode cL_law 113 = .ok (.bipush 106, 2) := by decide +kernel
theorem dL_law_115 : decode cL_law 115 = .ok (.iadd, 1) := by decide +kernel
theorem dL_law_116 : decode cL_law 116 = .ok (.istore 9, 2) := by decide +kernel
theorem dL_law_118 : decode cL_law 118 = .ok (.iload 9, 2) := by decide +kernel
theorem dL_law_120 : decode cL_law 120 = .ok (.iconst 4, 1) := by decide +kernel
theorem dL_law_121 : decode cL_law 121 = .ok (.ishr, 1) := by decide +kernel
theorem dL_law_122 : decode cL_law 122 = .ok (.ldc 81, 2) := by decide +kernel
theorem dL_law_124 : decode cL_law 124 = .ok (.iand, 1) := by decide +kernel
theorem dL_law_125 : decode cL_law 125 = .ok (.istore 10, 2) := by decide +kernel
theorem dL_law_127 : decode cL_law 127 = .ok (.iload 8, 2) := by decide +kernel
theorem dL_law_129 : decode cL_law 129 = .ok (.bipush 6, 2) := by decide +kernel
theorem dL_law_131 : decode cL_law 131 = .ok (.if_icmp .ge 7, 3) := by decide +kernel
theorem dL_law_134 : decode cL_law 134 = .ok (.iconst 0, 1) := by decide +kernel
theorem dL_law_135 : decode cL_law 135 = .ok (.goto 19, 3) := by decide +kernel
theorem dL_law_138 : decode cL_law 138 = .ok (.iload 8, 2) := by decide +kernel
theorem dL_law_140 : decode cL_law 140 = .ok (.bipush 8, 2) := by decide +kernel
theorem dL_law_142 : decode cL_law 142 = .ok (.if_icmp .ge 7, 3) := by decide +kernel
theorem dL_law_145 : decode cL_law 145 = .ok (.iconst 1, 1) := by decide +kernel
theorem dL_law_146 : decode cL_law 146 = .ok (.goto 8, 3) := by decide +kernel
theorem dL_law_149 : decode cL_law 149 = .ok (.iload 9, 2) := by decide +kernel
theorem dL_law_151 : decode cL_law 151 = .ok (.bipush 15, 2) := by decide +kernel
theorem dL_law_153 : decode cL_law 153 = .ok (.iand, 1) := by decide +kernel
theorem dL_law_154 : decode cL_law 154 = .ok (.istore 11, 2) := by decide +kernel
theorem dL_law_156 : decode cL_law 156 = .ok (.aload_n 1, 1) := by decide +kernel
theorem dL_law_157 : decode cL_law 157 = .ok (.invokevirtual 27, 3) := by decide +kernel
theorem dL_law_160 : decode cL_law 160 = .ok (.istore 12, 2) := by decide +kernel
theorem dL_law_162 : decode cL_law 162 = .ok (.aload_n 1, 1) := by decide +kernel
theorem dL_law_163 : decode cL_law 163 = .ok (.invokevirtual 41, 3) := by decide +kernel
theorem dL_law_166 : decode cL_law 166 = .ok (.istore 13, 2) := by decide +kernel
theorem dL_law_168 : decode cL_law 168 = .ok (.iload 12, 2) := by decide +kernel
theorem dL_law_170 : decode cL_law 170 = .ok (.ifCond .ne 7, 3) := by decide +kernel
theorem dL_law_173 : decode cL_law 173 = .ok (.iconst 0, 1) := by decide +kernel
theorem dL_law_174 : decode cL_law 174 = .ok (.goto 8, 3) := by decide +kernel
theorem dL_law_177 : decode cL_law 177 = .ok (.iload 10, 2) := by decide +kernel
theorem dL_law_179 : decode cL_law 179 = .ok (.iload 12, 2) := by decide +kernel
theorem dL_law_181 : decode cL_law 181 = .ok (.irem, 1) := by decide +kernel
theorem dL_law_182 : decode cL_law 182 = .ok (.istore 14, 2) := by decide +kernel
theorem dL_law_184 : decode cL_law 184 = .ok (.iload 13, 2) := by decide +kernel
theorem dL_law_186 : decode cL_law 186 = .ok (.ifCond .ne 7, 3) := by decide +kernel
theorem dL_law_189 : decode cL_law 189 = .ok (.iconst 0, 1) := by decide +kernel
theorem dL_law_190 : decode cL_law 190 = .ok (.goto 10, 3) := by decide +kernel
theorem dL_law_193 : decode cL_law 193 = .ok (.iload 10, 2) := by decide +kernel
theorem dL_law_195 : decode cL_law 195 = .ok (.iconst 3, 1) := by decide +kernel
theorem dL_law_196 : decode cL_law 196 = .ok (.ishr, 1) := by decide +kernel
theorem dL_law_197 : decode cL_law 197 = .ok (.iload 13, 2) := by decide +kernel
theorem dL_law_199 : decode cL_law 199 = .ok (.irem, 1) := by decide +kernel
theorem dL_law_200 : decode cL_law 200 = .ok (.istore 15, 2) := by decide +kernel
theorem dL_law_202 : decode cL_law 202 = .ok (.iload 10, 2) := by decide +kernel
theorem dL_law_204 : decode cL_law 204 = .ok (.iconst 4, 1) := by decide +kernel
theorem dL_law_205 : decode cL_law 205 = .ok (.ishr, 1) := by decide +kernel
theorem dL_law_206 : decode cL_law 206 = .ok (.sipush 360, 3) := by decide +kernel
theorem dL_law_209 : decode cL_law 209 = .ok (.irem, 1) := by decide +kernel
theorem dL_law_210 : decode cL_law 210 = .ok (.istore 16, 2) := by decide +kernel
theorem dL_law_212 : decode cL_law 212 = .ok (.iload 10, 2) := by decide +kernel
theorem dL_law_214 : decode cL_law 214 = .ok (.bipush 11, 2) := by decide +kernel
theorem dL_law_216 : decode cL_law 216 = .ok (.ishr, 1) := by decide +kernel
theorem dL_law_217 : decode cL_law 217 = .ok (.sipush 181, 3) := by decide +kernel
theorem dL_law_220 : decode cL_law 220 = .ok (.irem, 1) := by decide +kernel
theorem dL_law_221 : decode cL_law 221 = .ok (.bipush 90, 2) := by decide +kernel
theorem dL_law_223 : decode cL_law 223 = .ok (.isub, 1) := by decide +kernel
theorem dL_law_224 : decode cL_law 224 = .ok (.istore 17, 2) := by decide +kernel
theorem dL_law_226 : decode cL_law 226 = .ok (.iload 11, 2) := by decide +kernel
theorem dL_law_228 : decode cL_law 228 = .ok (.ifCond .ne 67, 3) := by decide +kernel
theorem dL_law_231 : decode cL_law 231 = .ok (.iload 12, 2) := by decide +kernel
theorem dL_law_233 : decode cL_law 233 = .ok (.bipush 24, 2) := by decide +kernel
theorem dL_law_235 : decode cL_law 235 = .ok (.if_icmp .ge 60, 3) := by decide +kernel
theorem dL_law_238 : decode cL_law 238 = .ok (.aload_n 1, 1) := by decide +kernel
theorem dL_law_239 : decode cL_law 239 = .ok (.iload 16, 2) := by decide +kernel
theorem dL_law_241 : decode cL_law 241 = .ok (.iload 17, 2) := by decide +kernel
theorem dL_law_243 : decode cL_law 243 = .ok (.invokevirtual 82, 3) := by decide +kernel
theorem dL_law_246 : decode cL_law 246 = .ok (.iload 12, 2) := by decide +kernel
theorem dL_law_248 : decode cL_law 248 = .ok (.if_icmp .ne 38, 3) := by decide +kernel
theorem dL_law_251 : decode cL_law 251 = .ok (.aload_n 1, 1) := by decide +kernel
theorem dL_law_252 : decode cL_law 252 = .ok (.iload 12, 2) := by decide +kernel
theorem dL_law_254 : decode cL_law 254 = .ok (.invokevirtual 38, 3) := by decide +kernel
theorem dL_law_257 : decode cL_law 257 = .ok (.iconst (-1), 1) := by decide +kernel
theorem dL_law_258 : decode cL_law 258 = .ok (.if_icmp .ne 28, 3) := by decide +kernel
theorem dL_law_261 : decode cL_law 261 = .ok (.aload_n 1, 1) := by decide +kernel
theorem dL_law_262 : decode cL_law 262 = .ok (.iload 12, 2) := by decide +kernel
theorem dL_law_264 : decode cL_law 264 = .ok (.invokevirtual 32, 3) := by decide +kernel
theorem dL_law_267 : decode cL_law 267 = .ok (.sipush 1000, 3) := by decide +kernel
theorem dL_law_270 : decode cL_law 270 = .ok (.iload 16, 2) := by decide +kernel
theorem dL_law_272 : decode cL_law 272 = .ok (.imul, 1) := by decide +kernel
theorem dL_law_273 : decode cL_law 273 = .ok (.iload 17, 2) := by decide +kernel
theorem dL_law_275 : decode cL_law 275 = .ok (.iadd, 1) := by decide +kernel
theorem dL_law_276 : decode cL_law 276 = .ok (.bipush 90, 2) := by decide +kernel
theorem dL_law_278 : decode cL_law 278 = .ok (.iadd, 1) := by decide +kernel
theorem dL_law_279 : decode cL_law 279 = .ok (.if_icmp .ne 7, 3) := by decide +kernel
theorem dL_law_282 : decode cL_law 282 = .ok (.iconst 1, 1) := by decide +kernel
theorem dL_law_283 : decode cL_law 283 = .ok (.goto 4, 3) := by decide +kernel
theorem dL_law_286 : decode cL_law 286 = .ok (.iconst 0, 1) := by decide +kernel
theorem dL_law_287 : decode cL_law 287 = .ok (.istore 6, 2) := by decide +kernel
theorem dL_law_289 : decode cL_law 289 = .ok (.iconst 0, 1) := by decide +kernel
theorem dL_law_290 : decode cL_law 290 = .ok (.istore 4, 2) := by decide +kernel
theorem dL_law_292 : decode cL_law 292 = .ok (.goto 832, 3) := by decide +kernel
theorem dL_law_295 : decode cL_law 295 = .ok (.iload 11, 2) := by decide +kernel
theorem dL_law_297 : decode cL_law 297 = .ok (.iconst 1, 1) := by decide +kernel
theorem dL_law_298 : decode cL_law 298 = .ok (.if_icmp .ne 51, 3) := by decide +kernel
theorem dL_law_301 : decode cL_law 301 = .ok (.iload 13, 2) := by decide +kernel
theorem dL_law_303 : decode cL_law 303 = .ok (.bipush 8, 2) := by decide +kernel
theorem dL_law_305 : decode cL_law 305 = .ok (.if_icmp .ge 44, 3) := by decide +kernel
theorem dL_law_308 : decode cL_law 308 = .ok (.aload_n 1, 1) := by decide +kernel
theorem dL_law_309 : decode cL_law 309 = .ok (.invokevirtual 85, 3) := by decide +kernel
theorem dL_law_312 : decode cL_law 312 = .ok (.iload 13, 2) := by decide +kernel
theorem dL_law_314 : decode cL_law 314 = .ok (.if_icmp .ne 26, 3) := by decide +kernel
theorem dL_law_317 : decode cL_law 317 = .ok (.aload_n 1, 1) := by decide +kernel
theorem dL_law_318 : decode cL_law 318 = .ok (.iload 13, 2) := by decide +kernel
theorem dL_law_320 : decode cL_law 320 = .ok (.invokevirtual 44, 3) := by decide +kernel
theorem dL_law_323 : decode cL_law 323 = .ok (.ifCond .ne 17, 3) := by decide +kernel
theorem dL_law_326 : decode cL_law 326 = .ok (.aload_n 1, 1) := by decide +kernel
theorem dL_law_327 : decode cL_law 327 = .ok (.iload 13, 2) := by decide +kernel
theorem dL_law_329 : decode cL_law 329 = .ok (.invokevirtual 53, 3) := by decide +kernel
theorem dL_law_332 : decode cL_law 332 = .ok (.iconst (-1), 1) := by decide +kernel
theorem dL_law_333 : decode cL_law 333 = .ok (.if_icmp .ne 7, 3) := by decide +kernel
theorem dL_law_336 : decode cL_law 336 = .ok (.iconst 1, 1) := by decide +kernel
theorem dL_law_337 : decode cL_law 337 = .ok (.goto 4, 3) := by decide +kernel
theorem dL_law_340 : decode cL_law 340 = .ok (.iconst 0, 1) := by decide +kernel
theorem dL_law_341 : decode cL_law 341 = .ok (.istore 6, 2) := by decide +kernel
theorem dL_law_343 : decode cL_law 343 = .ok (.iconst 0, 1) := by decide +kernel
theorem dL_law_344 : decode cL_law 344 = .ok (.istore 4, 2) := by decide +kernel
theorem dL_law_346 : decode cL_law 346 = .ok (.goto 778, 3) := by decide +kernel
theorem dL_law_349 : decode cL_law 349 = .ok (.iload 11, 2) := by decide +kernel
theorem dL_law_351 : decode cL_law 351 = .ok (.bipush 9, 2) := by decide +kernel
theorem dL_law_353 : decode cL_law 353 = .ok (.if_icmp .ge 322, 3) := by decide +kernel
theorem dL_law_356 : decode cL_law 356 = .ok (.iload 4, 2) := by decide +kernel
theorem dL_law_358 : decode cL_law 358 = .ok (.bipush 25, 2) := by decide +kernel
theorem dL_law_360 : decode cL_law 360 = .ok (.if_icmp .ge 7, 3) := by decide +kernel
theorem dL_law_363 : decode cL_law 363 = .ok (.iconst 1, 1) := by decide +kernel
theorem dL_law_364 : decode cL_law 364 = .ok (.goto 4, 3) := by decide +kernel
theorem dL_law_367 : decode cL_law 367 = .ok (.iconst 0, 1) := by decide +kernel
theorem dL_law_368 : decode cL_law 368 = .ok (.istore 18, 2) := by decide +kernel
theorem dL_law_370 : decode cL_law 370 = .ok (.aload_n 3, 1) := by decide +kernel
theorem dL_law_371 : decode cL_law 371 = .ok (.iload 4, 2) := by decide +kernel
theorem dL_law_373 : decode cL_law 373 = .ok (.aload_n 1, 1) := by decide +kernel
theorem dL_law_374 : decode cL_law 374 = .ok (.invokestatic 88, 3) := by decide +kernel
theorem dL_law_377 : decode cL_law 377 = .ok (.lastore, 1) := by decide +kernel
theorem dL_law_378 : decode cL_law 378 = .ok (.aload_n 1, 1) := by decide +kernel
theorem dL_law_379 : decode cL_law 379 = .ok (.iload 15, 2) := by decide +kernel
theorem dL_law_381 : decode cL_law 381 = .ok (.invokevirtual 44, 3) := by decide +kernel
theorem dL_law_384 : decode cL_law 384 = .ok (.istore 19, 2) := by decide +kernel
theorem dL_law_386 : decode cL_law 386 = .ok (.iconst 1, 1) := by decide +kernel
theorem dL_law_387 : decode cL_law 387 = .ok (.istore 20, 2) := by decide +kernel
theorem dL_law_389 : decode cL_law 389 = .ok (.iload 11, 2) := by decide +kernel
theorem dL_law_391 : decode cL_law 391 = .ok (.iconst 4, 1) := by decide +kernel
theorem dL_law_392 : decode cL_law 392 = .ok (.if_icmp .ge 51, 3) := by decide +kernel
theorem dL_law_395 : decode cL_law 395 = .ok (.aload_n 1, 1) := by decide +kernel
theorem dL_law_396 : decode cL_law 396 = .ok (.iload 14, 2) := by decide +kernel
theorem dL_law_398 : decode cL_law 398 = .ok (.iload 16, 2) := by decide +kernel
theorem dL_law_400 : decode cL_law 400 = .ok (.iload 17, 2) := by decide +kernel
theorem dL_law_402 : decode cL_law 402 = .ok (.invokevirtual 94, 3) := by decide +kernel
theorem dL_law_405 : decode cL_law 405 = .ok (.aload_n 1, 1) := by decide +kernel
theorem dL_law_406 : decode cL_law 406 = .ok (.invokevirtual 76, 3) := by decide +kernel
theorem dL_law_409 : decode cL_law 409 = .ok (.if_icmp .ne 28, 3) := by decide +kernel
theorem dL_law_412 : decode cL_law 412 = .ok (.aload_n 1, 1) := by decide +kernel
theorem dL_law_413 : decode cL_law 413 = .ok (.iload 14, 2) := by decide +kernel
theorem dL_law_415 : decode cL_law 415 = .ok (.invokevirtual 32, 3) := by decide +kernel
theorem dL_law_418 : decode cL_law 418 = .ok (.sipush 1000, 3) := by decide +kernel
theorem dL_law_421 : decode cL_law 421 = .ok (.iload 16, 2) := by decide +kernel
theorem dL_law_423 : decode cL_law 423 = .ok (.imul, 1) := by decide +kernel
theorem dL_law_424 : decode cL_law 424 = .ok (.iload 17, 2) := by decide +kernel
theorem dL_law_426 : decode cL_law 426 = .ok (.iadd, 1) := by decide +kernel
theorem dL_law_427 : decode cL_law 427 = .ok (.bipush 90, 2) := by decide +kernel
theorem dL_law_429 : decode cL_law 429 = .ok (.iadd, 1) := by decide +kernel
theorem dL_law_430 : decode cL_law 430 = .ok (.if_icmp .ne 7, 3) := by decide +kernel
theorem dL_law_433 : decode cL_law 433 = .ok (.iconst 1, 1) := by decide +kernel
theorem dL_law_434 : decode cL_law 434 = .ok (.goto 4, 3) := by decide +kernel
theorem dL_law_437 : decode cL_law 437 = .ok (.iconst 0, 1) := by decide +kernel
theorem dL_law_438 : decode cL_law 438 = .ok (.istore 6, 2) := by decide +kernel
theorem dL_law_440 : decode cL_law 440 = .ok (.goto 204, 3) := by decide +kernel
theorem dL_law_443 : decode cL_law 443 = .ok (.iload 11, 2) := by decide +kernel
theorem dL_law_445 : decode cL_law 445 = .ok (.bipush 8, 2) := by decide +kernel
theorem dL_law_447 : decode cL_law 447 = .ok (.if_icmp .lt 8, 3) := by decide +kernel
theorem dL_law_450 : decode cL_law 450 = .ok (.iload 19, 2) := by decide +kernel
theorem dL_law_452 : decode cL_law 452 = .ok (.ifCond .ne 164, 3) := by decide +kernel
theorem dL_law_455 : decode cL_law 455 = .ok (.iload 10, 2) := by decide +kernel
theorem dL_law_457 : decode cL_law 457 = .ok (.bipush 7, 2) := by decide +kernel
theorem dL_law_459 : decode cL_law 459 = .ok (.ishr, 1) := by decide +kernel
theorem dL_law_460 : decode cL_law 460 = .ok (.iload 12, 2) := by decide +kernel
theorem dL_law_462 : decode cL_law 462 = .ok (.irem, 1) := by decide +kernel
theorem dL_law_463 : decode cL_law 463 = .ok (.istore 21, 2) := by decide +kernel
theorem dL_law_465 : decode cL_law 465 = .ok (.aload_n 1, 1) := by decide +kernel
theorem dL_law_466 : decode cL_law 466 = .ok (.iload 15, 2) := by decide +kernel
theorem dL_law_468 : decode cL_law 468 = .ok (.iload 14, 2) := by decide +kernel
theorem dL_law_470 : decode cL_law 470 = .ok (.iload 21, 2) := by decide +kernel
theorem dL_law_472 : decode cL_law 472 = .ok (.invokestatic 97, 3) := by decide +kernel
theorem dL_law_475 : decode cL_law 475 = .ok (.istore 22, 2) := by decide +kernel
theorem dL_law_477 : decode cL_law 477 = .ok (.iload 22, 2) := by decide +kernel
theorem dL_law_479 : decode cL_law 479 = .ok (.ifCond .lt 7, 3) := by decide +kernel
theorem dL_law_482 : decode cL_law 482 = .ok (.iconst 1, 1) := by decide +kernel
theorem dL_law_483 : decode cL_law 483 = .ok (.goto 4, 3) := by decide +kernel
theorem dL_law_486 : decode cL_law 486 = .ok (.iconst 0, 1) := by decide +kernel
theorem dL_law_487 : decode cL_law 487 = .ok (.istore 20, 2) := by decide +kernel
theorem dL_law_489 : decode cL_law 489 = .ok (.iload 14, 2) := by decide +kernel
theorem dL_law_491 : decode cL_law 491 = .ok (.iload 21, 2) := by decide +kernel
theorem dL_law_493 : decode cL_law 493 = .ok (.if_icmp .ne 18, 3) := by decide +kernel
theorem dL_law_496 : decode cL_law 496 = .ok (.iload 22, 2) := by decide +kernel
theorem dL_law_498 : decode cL_law 498 = .ok (.bipush (-2), 2) := by decide +kernel
theorem dL_law_500 : decode cL_law 500 = .ok (.if_icmp .ne 7, 3) := by decide +kernel
theorem dL_law_503 : decode cL_law 503 = .ok (.iconst 1, 1) := by decide +kernel
theorem dL_law_504 : decode cL_law 504 = .ok (.goto 107, 3) := by decide +kernel
theorem dL_law_507 : decode cL_law 507 = .ok (.iconst 0, 1) := by decide +kernel
theorem dL_law_508 : decode cL_law 508 = .ok (.goto 103, 3) := by decide +kernel
theorem dL_law_511 : decode cL_law 511 = .ok (.iload 22, 2) := by decide +kernel
theorem dL_law_513 : decode cL_law 513 = .ok (.bipush (-3), 2) := by decide +kernel
theorem dL_law_515 : decode cL_law 515 = .ok (.if_icmp .ne 34, 3) := by decide +kernel
theorem dL_law_518 : decode cL_law 518 = .ok (.aload_n 1, 1) := by decide +kernel
theorem dL_law_519 : decode cL_law 519 = .ok (.iload 15, 2) := by decide +kernel
theorem dL_law_521 : decode cL_law 521 = .ok (.invokevirtual 44, 3) := by decide +kernel
theorem dL_law_524 : decode cL_law 524 = .ok (.iload 19, 2) := by decide +kernel
theorem dL_law_526 : decode cL_law 526 = .ok (.if_icmp .ne 19, 3) := by decide +kernel
theorem dL_law_529 : decode cL_law 529 = .ok (.aload_n 1, 1) := by decide +kernel
theorem dL_law_530 : decode cL_law 530 = .ok (.invokestatic 88, 3) := by decide +kernel
theorem dL_law_533 : decode cL_law 533 = .ok (.aload_n 3, 1) := by decide +kernel
theorem dL_law_534 : decode cL_law 534 = .ok (.iload 4, 2) := by decide +kernel
theorem dL_law_536 : decode cL_law 536 = .ok (.laload, 1) := by decide +kernel
theorem dL_law_537 : decode cL_law 537 = .ok (.lcmp, 1) := by decide +kernel
theorem dL_law_538 : decode cL_law 538 = .ok (.ifCond .ne 7, 3) := by decide +kernel
theorem dL_law_541 : decode cL_law 541 = .ok (.iconst 1, 1) := by decide +kernel
theorem dL_law_542 : decode cL_law 542 = .ok (.goto 69, 3) := by decide +kernel
theorem dL_law_545 : decode cL_law 545 = .ok (.iconst 0, 1) := by decide +kernel
theorem dL_law_546 : decode cL_law 546 = .ok (.goto 65, 3) := by decide +kernel
theorem dL_law_549 : decode cL_law 549 = .ok (.iload 22, 2) := by decide +kernel
theorem dL_law_551 : decode cL_law 551 = .ok (.iload 19, 2) := by decide +kernel
theorem dL_law_553 : decode cL_law 553 = .ok (.if_icmp .ne 57, 3) := by decide +kernel
theorem dL_law_556 : decode cL_law 556 = .ok (.aload_n 1, 1) := by decide +kernel
theorem dL_law_557 : decode cL_law 557 = .ok (.iload 15, 2) := by decide +kernel
theorem dL_law_559 : decode cL_law 559 = .ok (.invokevirtual 44, 3) := by decide +kernel
theorem dL_law_562 : decode cL_law 562 = .ok (.iload 19, 2) := by decide +kernel
theorem dL_law_564 : decode cL_law 564 = .ok (.iconst 1, 1) := by decide +kernel
theorem dL_law_565 : decode cL_law 565 = .ok (.iadd, 1) := by decide +kernel
theorem dL_law_566 : decode cL_law 566 = .ok (.if_icmp .ne 44, 3) := by decide +kernel
theorem dL_law_569 : decode cL_law 569 = .ok (.aload_n 1, 1) := by decide +kernel
theorem dL_law_570 : decode cL_law 570 = .ok (.iload 14, 2) := by decide +kernel
theorem dL_law_572 : decode cL_law 572 = .ok (.invokevirtual 38, 3) := by decide +kernel
theorem dL_law_575 : decode cL_law 575 = .ok (.iload 15, 2) := by decide +kernel
theorem dL_law_577 : decode cL_law 577 = .ok (.if_icmp .ne 33, 3) := by decide +kernel
theorem dL_law_580 : decode cL_law 580 = .ok (.aload_n 1, 1) := by decide +kernel
theorem dL_law_581 : decode cL_law 581 = .ok (.iload 21, 2) := by decide +kernel
theorem dL_law_583 : decode cL_law 583 = .ok (.invokevirtual 38, 3) := by decide +kernel
theorem dL_law_586 : decode cL_law 586 = .ok (.iload 15, 2) := by decide +kernel
theorem dL_law_588 : decode cL_law 588 = .ok (.if_icmp .ne 22, 3) := by decide +kernel
theorem dL_law_591 : decode cL_law 591 = .ok (.aload_n 1, 1) := by decide +kernel
theorem dL_law_592 : decode cL_law 592 = .ok (.iload 15, 2) := by decide +kernel
theorem dL_law_594 : decode cL_law 594 = .ok (.iload 21, 2) := by decide +kernel
theorem dL_law_596 : decode cL_law 596 = .ok (.iload 14, 2) := by decide +kernel
theorem dL_law_598 : decode cL_law 598 = .ok (.invokestatic 97, 3) := by decide +kernel
theorem dL_law_601 : decode cL_law 601 = .ok (.bipush (-3), 2) := by decide +kernel
theorem dL_law_603 : decode cL_law 603 = .ok (.if_icmp .ne 7, 3) := by decide +kernel
theorem dL_law_606 : decode cL_law 606 = .ok (.iconst 1, 1) := by decide +kernel
theorem dL_law_607 : decode cL_law 607 = .ok (.goto 4, 3) := by decide +kernel
theorem dL_law_610 : decode cL_law 610 = .ok (.iconst 0, 1) := by decide +kernel
theorem dL_law_611 : decode cL_law 611 = .ok (.istore 6, 2) := by decide +kernel
theorem dL_law_613 : decode cL_law 613 = .ok (.goto 31, 3) := by decide +kernel
theorem dL_law_616 : decode cL_law 616 = .ok (.aload_n 1, 1) := by decide +kernel
theorem dL_law_617 : decode cL_law 617 = .ok (.iload 15, 2) := by decide +kernel
theorem dL_law_619 : decode cL_law 619 = .ok (.iload 10, 2) := by decide +kernel
theorem dL_law_621 : decode cL_law 621 = .ok (.bipush 7, 2) := by decide +kernel
theorem dL_law_623 : decode cL_law 623 = .ok (.ishr, 1) := by decide +kernel
theorem dL_law_624 : decode cL_law 624 = .ok (.iload 19, 2) := by decide +kernel
theorem dL_law_626 : decode cL_law 626 = .ok (.irem, 1) := by decide +kernel
theorem dL_law_627 : decode cL_law 627 = .ok (.invokevirtual 101, 3) := by decide +kernel
theorem dL_law_630 : decode cL_law 630 = .ok (.iload 19, 2) := by decide +kernel
theorem dL_law_632 : decode cL_law 632 = .ok (.iconst 1, 1) := by decide +kernel
theorem dL_law_633 : decode cL_law 633 = .ok (.isub, 1) := by decide +kernel
theorem dL_law_634 : decode cL_law 634 = .ok (.if_icmp .ne 7, 3) := by decide +kernel
theorem dL_law_637 : decode cL_law 637 = .ok (.iconst 1, 1) := by decide +kernel
theorem dL_law_638 : decode cL_law 638 = .ok (.goto 4, 3) := by decide +kernel
theorem dL_law_641 : decode cL_law 641 = .ok (.iconst 0, 1) := by decide +kernel
theorem dL_law_642 : decode cL_law 642 = .ok (.istore 6, 2) := by decide +kernel
theorem dL_law_644 : decode cL_law 644 = .ok (.iload 4, 2) := by decide +kernel
theorem dL_law_646 : decode cL_law 646 = .ok (.iload 20, 2) := by decide +kernel
theorem dL_law_648 : decode cL_law 648 = .ok (.ifCond .eq 7, 3) := by decide +kernel
theorem dL_law_651 : decode cL_law 651 = .ok (.iconst 1, 1) := by decide +kernel
theorem dL_law_652 : decode cL_law 652 = .ok (.goto 4, 3) := by decide +kernel
theorem dL_law_655 : decode cL_law 655 = .ok (.iconst 0, 1) := by decide +kernel
theorem dL_law_656 : decode cL_law 656 = .ok (.iadd, 1) := by decide +kernel
theorem dL_law_657 : decode cL_law 657 = .ok (.istore 4, 2) := by decide +kernel
theorem dL_law_659 : decode cL_law 659 = .ok (.iload 18, 2) := by decide +kernel
theorem dL_law_661 : decode cL_law 661 = .ok (.ifCond .eq 8, 3) := by decide +kernel
theorem dL_law_664 : decode cL_law 664 = .ok (.iload 4, 2) := by decide +kernel
theorem dL_law_666 : decode cL_law 666 = .ok (.goto 4, 3) := by decide +kernel
theorem dL_law_669 : decode cL_law 669 = .ok (.iconst 0, 1) := by decide +kernel
theorem dL_law_670 : decode cL_law 670 = .ok (.istore 4, 2) := by decide +kernel
theorem dL_law_672 : decode cL_law 672 = .ok (.goto 452, 3) := by decide +kernel
theorem dL_law_675 : decode cL_law 675 = .ok (.iload 11, 2) := by decide +kernel
theorem dL_law_677 : decode cL_law 677 = .ok (.bipush 11, 2) := by decide +kernel
theorem dL_law_679 : decode cL_law 679 = .ok (.if_icmp .ge 86, 3) := by decide +kernel
theorem dL_law_682 : decode cL_law 682 = .ok (.aload_n 1, 1) := by decide +kernel
theorem dL_law_683 : decode cL_law 683 = .ok (.invokestatic 104, 3) := by decide +kernel
theorem dL_law_686 : decode cL_law 686 = .ok (.istore 18, 2) := by decide +kernel
theorem dL_law_688 : decode cL_law 688 = .ok (.iload 18, 2) := by decide +kernel
theorem dL_law_690 : decode cL_law 690 = .ok (.bipush (-3), 2) := by decide +kernel
theorem dL_law_692 : decode cL_law 692 = .ok (.if_icmp .lt 52, 3) := by decide +kernel
theorem dL_law_695 : decode cL_law 695 = .ok (.iload 18, 2) := by decide +kernel
theorem dL_law_697 : decode cL_law 697 = .ok (.bipush 30, 2) := by decide +kernel
theorem dL_law_699 : decode cL_law 699 = .ok (.if_icmp .ge 45, 3) := by decide +kernel
theorem dL_law_702 : decode cL_law 702 = .ok (.iload 18, 2) := by decide +kernel
theorem dL_law_704 : decode cL_law 704 = .ok (.bipush (-3), 2) := by decide +kernel
theorem dL_law_706 : decode cL_law 706 = .ok (.if_icmp .eq 22, 3) := by decide +kernel
theorem dL_law_709 : decode cL_law 709 = .ok (.iload 4, 2) := by decide +kernel
theorem dL_law_711 : decode cL_law 711 = .ok (.ifCond .eq 17, 3) := by decide +kernel
theorem dL_law_714 : decode cL_law 714 = .ok (.aload_n 1, 1) := by decide +kernel
theorem dL_law_715 : decode cL_law 715 = .ok (.invokestatic 88, 3) := by decide +kernel
theorem dL_law_718 : decode cL_law 718 = .ok (.aload_n 3, 1) := by decide +kernel
theorem dL_law_719 : decode cL_law 719 = .ok (.iload 4, 2) := by decide +kernel
theorem dL_law_721 : decode cL_law 721 = .ok (.iconst 1, 1) := by decide +kernel
theorem dL_law_722 : decode cL_law 722 = .ok (.isub, 1) := by decide +kernel
theorem dL_law_723 : decode cL_law 723 = .ok (.laload, 1) := by decide +kernel
theorem dL_law_724 : decode cL_law 724 = .ok (.lcmp, 1) := by decide +kernel
theorem dL_law_725 : decode cL_law 725 = .ok (.ifCond .ne 19, 3) := by decide +kernel
theorem dL_law_728 : decode cL_law 728 = .ok (.iload 18, 2) := by decide +kernel
theorem dL_law_730 : decode cL_law 730 = .ok (.bipush (-3), 2) := by decide +kernel
theorem dL_law_732 : decode cL_law 732 = .ok (.if_icmp .ne 8, 3) := by decide +kernel
theorem dL_law_735 : decode cL_law 735 = .ok (.iload 4, 2) := by decide +kernel
theorem dL_law_737 : decode cL_law 737 = .ok (.ifCond .ne 7, 3) := by decide +kernel
theorem dL_law_740 : decode cL_law 740 = .ok (.iconst 1, 1) := by decide +kernel
theorem dL_law_741 : decode cL_law 741 = .ok (.goto 4, 3) := by decide +kernel
theorem dL_law_744 : decode cL_law 744 = .ok (.iconst 0, 1) := by decide +kernel
theorem dL_law_745 : decode cL_law 745 = .ok (.istore 6, 2) := by decide +kernel
theorem dL_law_747 : decode cL_law 747 = .ok (.iload 4, 2) := by decide +kernel
theorem dL_law_749 : decode cL_law 749 = .ok (.iload 4, 2) := by decide +kernel
theorem dL_law_751 : decode cL_law 751 = .ok (.ifCond .le 7, 3) := by decide +kernel
theorem dL_law_754 : decode cL_law 754 = .ok (.iconst 1, 1) := by decide +kernel
theorem dL_law_755 : decode cL_law 755 = .ok (.goto 4, 3) := by decide +kernel
theorem dL_law_758 : decode cL_law 758 = .ok (.iconst 0, 1) := by decide +kernel
theorem dL_law_759 : decode cL_law 759 = .ok (.isub, 1) := by decide +kernel
theorem dL_law_760 : decode cL_law 760 = .ok (.istore 4, 2) := by decide +kernel
theorem dL_law_762 : decode cL_law 762 = .ok (.goto 362, 3) := by decide +kernel
theorem dL_law_765 : decode cL_law 765 = .ok (.iload 11, 2) := by decide +kernel
theorem dL_law_767 : decode cL_law 767 = .ok (.bipush 14, 2) := by decide +kernel
theorem dL_law_769 : decode cL_law 769 = .ok (.if_icmp .ge 139, 3) := by decide +kernel
theorem dL_law_772 : decode cL_law 772 = .ok (.iload 10, 2) := by decide +kernel
theorem dL_law_774 : decode cL_law 774 = .ok (.bipush 7, 2) := by decide +kernel
theorem dL_law_776 : decode cL_law 776 = .ok (.ishr, 1) := by decide +kernel
theorem dL_law_777 : decode cL_law 777 = .ok (.bipush 6, 2) := by decide +kernel
theorem dL_law_779 : decode cL_law 779 = .ok (.irem, 1) := by decide +kernel
theorem dL_law_780 : decode cL_law 780 = .ok (.istore 18, 2) := by decide +kernel
theorem dL_law_782 : decode cL_law 782 = .ok (.iload 10, 2) := by decide +kernel
theorem dL_law_784 : decode cL_law 784 = .ok (.bipush 10, 2) := by decide +kernel
theorem dL_law_786 : decode cL_law 786 = .ok (.ishr, 1) := by decide +kernel
theorem dL_law_787 : decode cL_law 787 = .ok (.iconst 4, 1) := by decide +kernel
theorem dL_law_788 : decode cL_law 788 = .ok (.irem, 1) := by decide +kernel
theorem dL_law_789 : decode cL_law 789 = .ok (.iload 10, 2) := by decide +kernel
theorem dL_law_791 : decode cL_law 791 = .ok (.bipush 12, 2) := by decide +kernel
theorem dL_law_793 : decode cL_law 793 = .ok (.ishr, 1) := by decide +kernel
theorem dL_law_794 : decode cL_law 794 = .ok (.iconst 3, 1) := by decide +kernel
theorem dL_law_795 : decode cL_law 795 = .ok (.iand, 1) := by decide +kernel
theorem dL_law_796 : decode cL_law 796 = .ok (.ifCond .ne 7, 3) := by decide +kernel
theorem dL_law_799 : decode cL_law 799 = .ok (.iconst 1, 1) := by decide +kernel
theorem dL_law_800 : decode cL_law 800 = .ok (.goto 4, 3) := by decide +kernel
theorem dL_law_803 : decode cL_law 803 = .ok (.iconst 0, 1) := by decide +kernel
end
section
theorem dL_law_804 : decode cL_law 804 = .ok (.isub, 1) := by decide +kernel
theorem dL_law_805 : decode cL_law 805 = .ok (.istore 19, 2) := by decide +kernel
theorem dL_law_807 : decode cL_law 807 = .ok (.iload 19, 2) := by decide +kernel
theorem dL_law_809 : decode cL_law 809 = .ok (.ifCond .ge 7, 3) := by decide +kernel
theorem dL_law_812 : decode cL_law 812 = .ok (.iconst 0, 1) := by decide +kernel
theorem dL_law_813 : decode cL_law 813 = .ok (.goto 11, 3) := by decide +kernel
theorem dL_law_816 : decode cL_law 816 = .ok (.aload_n 1, 1) := by decide +kernel
theorem dL_law_817 : decode cL_law 817 = .ok (.iload 15, 2) := by decide +kernel
theorem dL_law_819 : decode cL_law 819 = .ok (.iload 19, 2) := by decide +kernel
theorem dL_law_821 : decode cL_law 821 = .ok (.invokevirtual 56, 3) := by decide +kernel
theorem dL_law_824 : decode cL_law 824 = .ok (.istore 20, 2) := by decide +kernel
theorem dL_law_826 : decode cL_law 826 = .ok (.aload_n 1, 1) := by decide +kernel
theorem dL_law_827 : decode cL_law 827 = .ok (.iload 18, 2) := by decide +kernel
theorem dL_law_829 : decode cL_law 829 = .ok (.iload 15, 2) := by decide +kernel
theorem dL_law_831 : decode cL_law 831 = .ok (.iload 19, 2) := by decide +kernel
theorem dL_law_833 : decode cL_law 833 = .ok (.invokevirtual 108, 3) := by decide +kernel
theorem dL_law_836 : decode cL_law 836 = .ok (.istore 21, 2) := by decide +kernel
theorem dL_law_838 : decode cL_law 838 = .ok (.iload 21, 2) := by decide +kernel
theorem dL_law_840 : decode cL_law 840 = .ok (.iconst (-1), 1) := by decide +kernel
theorem dL_law_841 : decode cL_law 841 = .ok (.if_icmp .lt 61, 3) := by decide +kernel
theorem dL_law_844 : decode cL_law 844 = .ok (.iload 21, 2) := by decide +kernel
theorem dL_law_846 : decode cL_law 846 = .ok (.bipush 10, 2) := by decide +kernel
theorem dL_law_848 : decode cL_law 848 = .ok (.if_icmp .ge 54, 3) := by decide +kernel
theorem dL_law_851 : decode cL_law 851 = .ok (.iload 19, 2) := by decide +kernel
theorem dL_law_853 : decode cL_law 853 = .ok (.ifCond .lt 30, 3) := by decide +kernel
theorem dL_law_856 : decode cL_law 856 = .ok (.aload_n 1, 1) := by decide +kernel
theorem dL_law_857 : decode cL_law 857 = .ok (.iload 15, 2) := by decide +kernel
theorem dL_law_859 : decode cL_law 859 = .ok (.iload 19, 2) := by decide +kernel
theorem dL_law_861 : decode cL_law 861 = .ok (.invokevirtual 56, 3) := by decide +kernel
theorem dL_law_864 : decode cL_law 864 = .ok (.iload 21, 2) := by decide +kernel
theorem dL_law_866 : decode cL_law 866 = .ok (.iload 19, 2) := by decide +kernel
theorem dL_law_868 : decode cL_law 868 = .ok (.if_icmp .ne 8, 3) := by decide +kernel
theorem dL_law_871 : decode cL_law 871 = .ok (.iload 20, 2) := by decide +kernel
theorem dL_law_873 : decode cL_law 873 = .ok (.goto 7, 3) := by decide +kernel
theorem dL_law_876 : decode cL_law 876 = .ok (.iload 20, 2) := by decide +kernel
theorem dL_law_878 : decode cL_law 878 = .ok (.iconst 1, 1) := by decide +kernel
theorem dL_law_879 : decode cL_law 879 = .ok (.iadd, 1) := by decide +kernel
theorem dL_law_880 : decode cL_law 880 = .ok (.if_icmp .ne 22, 3) := by decide +kernel
theorem dL_law_883 : decode cL_law 883 = .ok (.aload_n 1, 1) := by decide +kernel
theorem dL_law_884 : decode cL_law 884 = .ok (.iload 18, 2) := by decide +kernel
theorem dL_law_886 : decode cL_law 886 = .ok (.iload 15, 2) := by decide +kernel
theorem dL_law_888 : decode cL_law 888 = .ok (.iload 19, 2) := by decide +kernel
theorem dL_law_890 : decode cL_law 890 = .ok (.invokevirtual 108, 3) := by decide +kernel
theorem dL_law_893 : decode cL_law 893 = .ok (.iload 19, 2) := by decide +kernel
theorem dL_law_895 : decode cL_law 895 = .ok (.if_icmp .ne 7, 3) := by decide +kernel
theorem dL_law_898 : decode cL_law 898 = .ok (.iconst 1, 1) := by decide +kernel
theorem dL_law_899 : decode cL_law 899 = .ok (.goto 4, 3) := by decide +kernel
theorem dL_law_902 : decode cL_law 902 = .ok (.iconst 0, 1) := by decide +kernel
theorem dL_law_903 : decode cL_law 903 = .ok (.istore 6, 2) := by decide +kernel
theorem dL_law_905 : decode cL_law 905 = .ok (.goto 219, 3) := by decide +kernel
theorem dL_law_908 : decode cL_law 908 = .ok (.iload 10, 2) := by decide +kernel
theorem dL_law_910 : decode cL_law 910 = .ok (.iconst 2, 1) := by decide +kernel
theorem dL_law_911 : decode cL_law 911 = .ok (.ishr, 1) := by decide +kernel
theorem dL_law_912 : decode cL_law 912 = .ok (.sipush 181, 3) := by decide +kernel
theorem dL_law_915 : decode cL_law 915 = .ok (.irem, 1) := by decide +kernel
theorem dL_law_916 : decode cL_law 916 = .ok (.bipush 90, 2) := by decide +kernel
theorem dL_law_918 : decode cL_law 918 = .ok (.isub, 1) := by decide +kernel
theorem dL_law_919 : decode cL_law 919 = .ok (.istore 18, 2) := by decide +kernel
theorem dL_law_921 : decode cL_law 921 = .ok (.iload 10, 2) := by decide +kernel
theorem dL_law_923 : decode cL_law 923 = .ok (.bipush 6, 2) := by decide +kernel
theorem dL_law_925 : decode cL_law 925 = .ok (.ishr, 1) := by decide +kernel
theorem dL_law_926 : decode cL_law 926 = .ok (.sipush 365, 3) := by decide +kernel
theorem dL_law_929 : decode cL_law 929 = .ok (.irem, 1) := by decide +kernel
theorem dL_law_930 : decode cL_law 930 = .ok (.istore 19, 2) := by decide +kernel
theorem dL_law_932 : decode cL_law 932 = .ok (.aload_n 1, 1) := by decide +kernel
theorem dL_law_933 : decode cL_law 933 = .ok (.iload 15, 2) := by decide +kernel
theorem dL_law_935 : decode cL_law 935 = .ok (.iload 18, 2) := by decide +kernel
theorem dL_law_937 : decode cL_law 937 = .ok (.iload 19, 2) := by decide +kernel
theorem dL_law_939 : decode cL_law 939 = .ok (.invokevirtual 62, 3) := by decide +kernel
theorem dL_law_942 : decode cL_law 942 = .ok (.istore 20, 2) := by decide +kernel
theorem dL_law_944 : decode cL_law 944 = .ok (.iload 20, 2) := by decide +kernel
theorem dL_law_946 : decode cL_law 946 = .ok (.ifCond .lt 13, 3) := by decide +kernel
theorem dL_law_949 : decode cL_law 949 = .ok (.iload 10, 2) := by decide +kernel
theorem dL_law_951 : decode cL_law 951 = .ok (.bipush 8, 2) := by decide +kernel
theorem dL_law_953 : decode cL_law 953 = .ok (.ishr, 1) := by decide +kernel
theorem dL_law_954 : decode cL_law 954 = .ok (.iconst 3, 1) := by decide +kernel
theorem dL_law_955 : decode cL_law 955 = .ok (.iand, 1) := by decide +kernel
theorem dL_law_956 : decode cL_law 956 = .ok (.ifCond .ne 14, 3) := by decide +kernel
theorem dL_law_959 : decode cL_law 959 = .ok (.iload 10, 2) := by decide +kernel
theorem dL_law_961 : decode cL_law 961 = .ok (.bipush 10, 2) := by decide +kernel
theorem dL_law_963 : decode cL_law 963 = .ok (.ishr, 1) := by decide +kernel
theorem dL_law_964 : decode cL_law 964 = .ok (.bipush 24, 2) := by decide +kernel
theorem dL_law_966 : decode cL_law 966 = .ok (.irem, 1) := by decide +kernel
theorem dL_law_967 : decode cL_law 967 = .ok (.goto 5, 3) := by decide +kernel
theorem dL_law_970 : decode cL_law 970 = .ok (.iload 20, 2) := by decide +kernel
theorem dL_law_972 : decode cL_law 972 = .ok (.istore 21, 2) := by decide +kernel
theorem dL_law_974 : decode cL_law 974 = .ok (.aload_n 1, 1) := by decide +kernel
theorem dL_law_975 : decode cL_law 975 = .ok (.iload 15, 2) := by decide +kernel
theorem dL_law_977 : decode cL_law 977 = .ok (.iload 18, 2) := by decide +kernel
theorem dL_law_979 : decode cL_law 979 = .ok (.iload 19, 2) := by decide +kernel
theorem dL_law_981 : decode cL_law 981 = .ok (.iload 21, 2) := by decide +kernel
theorem dL_law_983 : decode cL_law 983 = .ok (.invokevirtual 68, 3) := by decide +kernel
theorem dL_law_986 : decode cL_law 986 = .ok (.ifCond .eq 23, 3) := by decide +kernel
theorem dL_law_989 : decode cL_law 989 = .ok (.aload_n 1, 1) := by decide +kernel
theorem dL_law_990 : decode cL_law 990 = .ok (.iload 15, 2) := by decide +kernel
theorem dL_law_992 : decode cL_law 992 = .ok (.invokevirtual 53, 3) := by decide +kernel
theorem dL_law_995 : decode cL_law 995 = .ok (.ifCond .lt 14, 3) := by decide +kernel
theorem dL_law_998 : decode cL_law 998 = .ok (.iload 5, 2) := by decide +kernel
theorem dL_law_1000 : decode cL_law 1000 = .ok (.bipush 12, 2) := by decide +kernel
theorem dL_law_1002 : decode cL_law 1002 = .ok (.if_icmp .ge 7, 3) := by decide +kernel
theorem dL_law_1005 : decode cL_law 1005 = .ok (.iconst 1, 1) := by decide +kernel
theorem dL_law_1006 : decode cL_law 1006 = .ok (.goto 4, 3) := by decide +kernel
theorem dL_law_1009 : decode cL_law 1009 = .ok (.iconst 0, 1) := by decide +kernel
theorem dL_law_1010 : decode cL_law 1010 = .ok (.istore 22, 2) := by decide +kernel
theorem dL_law_1012 : decode cL_law 1012 = .ok (.aload_n 1, 1) := by decide +kernel
theorem dL_law_1013 : decode cL_law 1013 = .ok (.iload 15, 2) := by decide +kernel
theorem dL_law_1015 : decode cL_law 1015 = .ok (.iload 18, 2) := by decide +kernel
theorem dL_law_1017 : decode cL_law 1017 = .ok (.iload 19, 2) := by decide +kernel
theorem dL_law_1019 : decode cL_law 1019 = .ok (.iload 21, 2) := by decide +kernel
theorem dL_law_1021 : decode cL_law 1021 = .ok (.invokestatic 111, 3) := by decide +kernel
theorem dL_law_1024 : decode cL_law 1024 = .ok (.istore 23, 2) := by decide +kernel
theorem dL_law_1026 : decode cL_law 1026 = .ok (.iload 23, 2) := by decide +kernel
theorem dL_law_1028 : decode cL_law 1028 = .ok (.iload 22, 2) := by decide +kernel
theorem dL_law_1030 : decode cL_law 1030 = .ok (.ifCond .eq 8, 3) := by decide +kernel
theorem dL_law_1033 : decode cL_law 1033 = .ok (.iload 5, 2) := by decide +kernel
theorem dL_law_1035 : decode cL_law 1035 = .ok (.goto 5, 3) := by decide +kernel
theorem dL_law_1038 : decode cL_law 1038 = .ok (.bipush (-3), 2) := by decide +kernel
theorem dL_law_1040 : decode cL_law 1040 = .ok (.if_icmp .ne 21, 3) := by decide +kernel
theorem dL_law_1043 : decode cL_law 1043 = .ok (.iload 22, 2) := by decide +kernel
theorem dL_law_1045 : decode cL_law 1045 = .ok (.ifCond .eq 12, 3) := by decide +kernel
theorem dL_law_1048 : decode cL_law 1048 = .ok (.aload_n 1, 1) := by decide +kernel
theorem dL_law_1049 : decode cL_law 1049 = .ok (.iload 23, 2) := by decide +kernel
theorem dL_law_1051 : decode cL_law 1051 = .ok (.invokevirtual 115, 3) := by decide +kernel
theorem dL_law_1054 : decode cL_law 1054 = .ok (.ifCond .ne 7, 3) := by decide +kernel
theorem dL_law_1057 : decode cL_law 1057 = .ok (.iconst 1, 1) := by decide +kernel
theorem dL_law_1058 : decode cL_law 1058 = .ok (.goto 4, 3) := by decide +kernel
theorem dL_law_1061 : decode cL_law 1061 = .ok (.iconst 0, 1) := by decide +kernel
theorem dL_law_1062 : decode cL_law 1062 = .ok (.istore 6, 2) := by decide +kernel
theorem dL_law_1064 : decode cL_law 1064 = .ok (.iload 22, 2) := by decide +kernel
theorem dL_law_1066 : decode cL_law 1066 = .ok (.ifCond .eq 58, 3) := by decide +kernel
theorem dL_law_1069 : decode cL_law 1069 = .ok (.aload_n 2, 1) := by decide +kernel
theorem dL_law_1070 : decode cL_law 1070 = .ok (.iconst 5, 1) := by decide +kernel
theorem dL_law_1071 : decode cL_law 1071 = .ok (.iload 5, 2) := by decide +kernel
theorem dL_law_1073 : decode cL_law 1073 = .ok (.imul, 1) := by decide +kernel
theorem dL_law_1074 : decode cL_law 1074 = .ok (.iload 15, 2) := by decide +kernel
theorem dL_law_1076 : decode cL_law 1076 = .ok (.iastore, 1) := by decide +kernel
theorem dL_law_1077 : decode cL_law 1077 = .ok (.aload_n 2, 1) := by decide +kernel
theorem dL_law_1078 : decode cL_law 1078 = .ok (.iconst 5, 1) := by decide +kernel
theorem dL_law_1079 : decode cL_law 1079 = .ok (.iload 5, 2) := by decide +kernel
theorem dL_law_1081 : decode cL_law 1081 = .ok (.imul, 1) := by decide +kernel
theorem dL_law_1082 : decode cL_law 1082 = .ok (.iconst 1, 1) := by decide +kernel
theorem dL_law_1083 : decode cL_law 1083 = .ok (.iadd, 1) := by decide +kernel
theorem dL_law_1084 : decode cL_law 1084 = .ok (.iload 18, 2) := by decide +kernel
theorem dL_law_1086 : decode cL_law 1086 = .ok (.iastore, 1) := by decide +kernel
theorem dL_law_1087 : decode cL_law 1087 = .ok (.aload_n 2, 1) := by decide +kernel
theorem dL_law_1088 : decode cL_law 1088 = .ok (.iconst 5, 1) := by decide +kernel
theorem dL_law_1089 : decode cL_law 1089 = .ok (.iload 5, 2) := by decide +kernel
theorem dL_law_1091 : decode cL_law 1091 = .ok (.imul, 1) := by decide +kernel
theorem dL_law_1092 : decode cL_law 1092 = .ok (.iconst 2, 1) := by decide +kernel
theorem dL_law_1093 : decode cL_law 1093 = .ok (.iadd, 1) := by decide +kernel
theorem dL_law_1094 : decode cL_law 1094 = .ok (.iload 19, 2) := by decide +kernel
theorem dL_law_1096 : decode cL_law 1096 = .ok (.iastore, 1) := by decide +kernel
theorem dL_law_1097 : decode cL_law 1097 = .ok (.aload_n 2, 1) := by decide +kernel
theorem dL_law_1098 : decode cL_law 1098 = .ok (.iconst 5, 1) := by decide +kernel
theorem dL_law_1099 : decode cL_law 1099 = .ok (.iload 5, 2) := by decide +kernel
theorem dL_law_1101 : decode cL_law 1101 = .ok (.imul, 1) := by decide +kernel
theorem dL_law_1102 : decode cL_law 1102 = .ok (.iconst 3, 1) := by decide +kernel
theorem dL_law_1103 : decode cL_law 1103 = .ok (.iadd, 1) := by decide +kernel
theorem dL_law_1104 : decode cL_law 1104 = .ok (.iload 21, 2) := by decide +kernel
theorem dL_law_1106 : decode cL_law 1106 = .ok (.iastore, 1) := by decide +kernel
theorem dL_law_1107 : decode cL_law 1107 = .ok (.aload_n 2, 1) := by decide +kernel
theorem dL_law_1108 : decode cL_law 1108 = .ok (.iconst 5, 1) := by decide +kernel
theorem dL_law_1109 : decode cL_law 1109 = .ok (.iload 5, 2) := by decide +kernel
theorem dL_law_1111 : decode cL_law 1111 = .ok (.imul, 1) := by decide +kernel
theorem dL_law_1112 : decode cL_law 1112 = .ok (.iconst 4, 1) := by decide +kernel
theorem dL_law_1113 : decode cL_law 1113 = .ok (.iadd, 1) := by decide +kernel
theorem dL_law_1114 : decode cL_law 1114 = .ok (.aload_n 1, 1) := by decide +kernel
theorem dL_law_1115 : decode cL_law 1115 = .ok (.iload 15, 2) := by decide +kernel
theorem dL_law_1117 : decode cL_law 1117 = .ok (.invokevirtual 53, 3) := by decide +kernel
theorem dL_law_1120 : decode cL_law 1120 = .ok (.iastore, 1) := by decide +kernel
theorem dL_law_1121 : decode cL_law 1121 = .ok (.iinc 5 1, 3) := by decide +kernel
theorem dL_law_1124 : decode cL_law 1124 = .ok (.iconst 0, 1) := by decide +kernel
theorem dL_law_1125 : decode cL_law 1125 = .ok (.istore 18, 2) := by decide +kernel
theorem dL_law_1127 : decode cL_law 1127 = .ok (.iconst 0, 1) := by decide +kernel
theorem dL_law_1128 : decode cL_law 1128 = .ok (.istore 19, 2) := by decide +kernel
theorem dL_law_1130 : decode cL_law 1130 = .ok (.iload 19, 2) := by decide +kernel
theorem dL_law_1132 : decode cL_law 1132 = .ok (.iload 5, 2) := by decide +kernel
theorem dL_law_1134 : decode cL_law 1134 = .ok (.if_icmp .ge 106, 3) := by decide +kernel
theorem dL_law_1137 : decode cL_law 1137 = .ok (.iload 6, 2) := by decide +kernel
theorem dL_law_1139 : decode cL_law 1139 = .ok (.ifCond .eq 101, 3) := by decide +kernel
theorem dL_law_1142 : decode cL_law 1142 = .ok (.iconst 5, 1) := by decide +kernel
theorem dL_law_1143 : decode cL_law 1143 = .ok (.iload 19, 2) := by decide +kernel
theorem dL_law_1145 : decode cL_law 1145 = .ok (.imul, 1) := by decide +kernel
theorem dL_law_1146 : decode cL_law 1146 = .ok (.istore 20, 2) := by decide +kernel
theorem dL_law_1148 : decode cL_law 1148 = .ok (.aload_n 1, 1) := by decide +kernel
theorem dL_law_1149 : decode cL_law 1149 = .ok (.aload_n 2, 1) := by decide +kernel
theorem dL_law_1150 : decode cL_law 1150 = .ok (.iload 20, 2) := by decide +kernel
theorem dL_law_1152 : decode cL_law 1152 = .ok (.iaload, 1) := by decide +kernel
theorem dL_law_1153 : decode cL_law 1153 = .ok (.aload_n 2, 1) := by decide +kernel
theorem dL_law_1154 : decode cL_law 1154 = .ok (.iload 20, 2) := by decide +kernel
theorem dL_law_1156 : decode cL_law 1156 = .ok (.iconst 1, 1) := by decide +kernel
theorem dL_law_1157 : decode cL_law 1157 = .ok (.iadd, 1) := by decide +kernel
theorem dL_law_1158 : decode cL_law 1158 = .ok (.iaload, 1) := by decide +kernel
theorem dL_law_1159 : decode cL_law 1159 = .ok (.aload_n 2, 1) := by decide +kernel
theorem dL_law_1160 : decode cL_law 1160 = .ok (.iload 20, 2) := by decide +kernel
theorem dL_law_1162 : decode cL_law 1162 = .ok (.iconst 2, 1) := by decide +kernel
theorem dL_law_1163 : decode cL_law 1163 = .ok (.iadd, 1) := by decide +kernel
theorem dL_law_1164 : decode cL_law 1164 = .ok (.iaload, 1) := by decide +kernel
theorem dL_law_1165 : decode cL_law 1165 = .ok (.aload_n 2, 1) := by decide +kernel
theorem dL_law_1166 : decode cL_law 1166 = .ok (.iload 20, 2) := by decide +kernel
theorem dL_law_1168 : decode cL_law 1168 = .ok (.iconst 3, 1) := by decide +kernel
theorem dL_law_1169 : decode cL_law 1169 = .ok (.iadd, 1) := by decide +kernel
theorem dL_law_1170 : decode cL_law 1170 = .ok (.iaload, 1) := by decide +kernel
theorem dL_law_1171 : decode cL_law 1171 = .ok (.invokevirtual 68, 3) := by decide +kernel
theorem dL_law_1174 : decode cL_law 1174 = .ok (.ifCond .eq 20, 3) := by decide +kernel
theorem dL_law_1177 : decode cL_law 1177 = .ok (.aload_n 1, 1) := by decide +kernel
theorem dL_law_1178 : decode cL_law 1178 = .ok (.aload_n 2, 1) := by decide +kernel
theorem dL_law_1179 : decode cL_law 1179 = .ok (.iload 20, 2) := by decide +kernel
theorem dL_law_1181 : decode cL_law 1181 = .ok (.iaload, 1) := by decide +kernel
theorem dL_law_1182 : decode cL_law 1182 = .ok (.invokevirtual 53, 3) := by decide +kernel
theorem dL_law_1185 : decode cL_law 1185 = .ok (.aload_n 2, 1) := by decide +kernel
theorem dL_law_1186 : decode cL_law 1186 = .ok (.iload 20, 2) := by decide +kernel
theorem dL_law_1188 : decode cL_law 1188 = .ok (.iconst 4, 1) := by decide +kernel
theorem dL_law_1189 : decode cL_law 1189 = .ok (.iadd, 1) := by decide +kernel
theorem dL_law_1190 : decode cL_law 1190 = .ok (.iaload, 1) := by decide +kernel
theorem dL_law_1191 : decode cL_law 1191 = .ok (.if_icmp .eq 7, 3) := by decide +kernel
theorem dL_law_1194 : decode cL_law 1194 = .ok (.iconst 1, 1) := by decide +kernel
theorem dL_law_1195 : decode cL_law 1195 = .ok (.goto 4, 3) := by decide +kernel
theorem dL_law_1198 : decode cL_law 1198 = .ok (.iconst 0, 1) := by decide +kernel
theorem dL_law_1199 : decode cL_law 1199 = .ok (.istore 21, 2) := by decide +kernel
theorem dL_law_1201 : decode cL_law 1201 = .ok (.iload 18, 2) := by decide +kernel
theorem dL_law_1203 : decode cL_law 1203 = .ok (.iload 21, 2) := by decide +kernel
theorem dL_law_1205 : decode cL_law 1205 = .ok (.ifCond .eq 7, 3) := by decide +kernel
theorem dL_law_1208 : decode cL_law 1208 = .ok (.iconst 1, 1) := by decide +kernel
theorem dL_law_1209 : decode cL_law 1209 = .ok (.goto 4, 3) := by decide +kernel
theorem dL_law_1212 : decode cL_law 1212 = .ok (.iconst 0, 1) := by decide +kernel
theorem dL_law_1213 : decode cL_law 1213 = .ok (.iadd, 1) := by decide +kernel
theorem dL_law_1214 : decode cL_law 1214 = .ok (.istore 18, 2) := by decide +kernel
theorem dL_law_1216 : decode cL_law 1216 = .ok (.aload_n 1, 1) := by decide +kernel
theorem dL_law_1217 : decode cL_law 1217 = .ok (.iload 19, 2) := by decide +kernel
theorem dL_law_1219 : decode cL_law 1219 = .ok (.invokevirtual 115, 3) := by decide +kernel
theorem dL_law_1222 : decode cL_law 1222 = .ok (.iload 21, 2) := by decide +kernel
theorem dL_law_1224 : decode cL_law 1224 = .ok (.if_icmp .ne 7, 3) := by decide +kernel
theorem dL_law_1227 : decode cL_law 1227 = .ok (.iconst 1, 1) := by decide +kernel
theorem dL_law_1228 : decode cL_law 1228 = .ok (.goto 4, 3) := by decide +kernel
theorem dL_law_1231 : decode cL_law 1231 = .ok (.iconst 0, 1) := by decide +kernel
theorem dL_law_1232 : decode cL_law 1232 = .ok (.istore 6, 2) := by decide +kernel
theorem dL_law_1234 : decode cL_law 1234 = .ok (.iinc 19 1, 3) := by decide +kernel
theorem dL_law_1237 : decode cL_law 1237 = .ok (.goto (-107), 3) := by decide +kernel
theorem dL_law_1240 : decode cL_law 1240 = .ok (.iload 6, 2) := by decide +kernel
theorem dL_law_1242 : decode cL_law 1242 = .ok (.ifCond .eq 23, 3) := by decide +kernel
theorem dL_law_1245 : decode cL_law 1245 = .ok (.aload_n 1, 1) := by decide +kernel
theorem dL_law_1246 : decode cL_law 1246 = .ok (.invokevirtual 76, 3) := by decide +kernel
theorem dL_law_1249 : decode cL_law 1249 = .ok (.iload 18, 2) := by decide +kernel
theorem dL_law_1251 : decode cL_law 1251 = .ok (.if_icmp .ne 14, 3) := by decide +kernel
theorem dL_law_1254 : decode cL_law 1254 = .ok (.aload_n 1, 1) := by decide +kernel
theorem dL_law_1255 : decode cL_law 1255 = .ok (.invokestatic 119, 3) := by decide +kernel
theorem dL_law_1258 : decode cL_law 1258 = .ok (.ifCond .eq 7, 3) := by decide +kernel
theorem dL_law_1261 : decode cL_law 1261 = .ok (.iconst 1, 1) := by decide +kernel
theorem dL_law_1262 : decode cL_law 1262 = .ok (.goto 4, 3) := by decide +kernel
theorem dL_law_1265 : decode cL_law 1265 = .ok (.iconst 0, 1) := by decide +kernel
theorem dL_law_1266 : decode cL_law 1266 = .ok (.istore 6, 2) := by decide +kernel
theorem dL_law_1268 : decode cL_law 1268 = .ok (.iload 6, 2) := by decide +kernel
theorem dL_law_1270 : decode cL_law 1270 = .ok (.ifCond .eq 83, 3) := by decide +kernel
theorem dL_law_1273 : decode cL_law 1273 = .ok (.aload_n 1, 1) := by decide +kernel
theorem dL_law_1274 : decode cL_law 1274 = .ok (.invokevirtual 41, 3) := by decide +kernel
theorem dL_law_1277 : decode cL_law 1277 = .ok (.ifCond .eq 72, 3) := by decide +kernel
theorem dL_law_1280 : decode cL_law 1280 = .ok (.aload_n 1, 1) := by decide +kernel
theorem dL_law_1281 : decode cL_law 1281 = .ok (.iload 10, 2) := by decide +kernel
theorem dL_law_1283 : decode cL_law 1283 = .ok (.aload_n 1, 1) := by decide +kernel
theorem dL_law_1284 : decode cL_law 1284 = .ok (.invokevirtual 41, 3) := by decide +kernel
theorem dL_law_1287 : decode cL_law 1287 = .ok (.irem, 1) := by decide +kernel
theorem dL_law_1288 : decode cL_law 1288 = .ok (.iload 10, 2) := by decide +kernel
theorem dL_law_1290 : decode cL_law 1290 = .ok (.iconst 3, 1) := by decide +kernel
theorem dL_law_1291 : decode cL_law 1291 = .ok (.ishr, 1) := by decide +kernel
theorem dL_law_1292 : decode cL_law 1292 = .ok (.sipush 181, 3) := by decide +kernel
theorem dL_law_1295 : decode cL_law 1295 = .ok (.irem, 1) := by decide +kernel
theorem dL_law_1296 : decode cL_law 1296 = .ok (.bipush 90, 2) := by decide +kernel
theorem dL_law_1298 : decode cL_law 1298 = .ok (.isub, 1) := by decide +kernel
theorem dL_law_1299 : decode cL_law 1299 = .ok (.iload 10, 2) := by decide +kernel
theorem dL_law_1301 : decode cL_law 1301 = .ok (.bipush 7, 2) := by decide +kernel
theorem dL_law_1303 : decode cL_law 1303 = .ok (.ishr, 1) := by decide +kernel
theorem dL_law_1304 : decode cL_law 1304 = .ok (.sipush 365, 3) := by decide +kernel
theorem dL_law_1307 : decode cL_law 1307 = .ok (.irem, 1) := by decide +kernel
theorem dL_law_1308 : decode cL_law 1308 = .ok (.iload 10, 2) := by decide +kernel
theorem dL_law_1310 : decode cL_law 1310 = .ok (.bipush 9, 2) := by decide +kernel
theorem dL_law_1312 : decode cL_law 1312 = .ok (.ishr, 1) := by decide +kernel
theorem dL_law_1313 : decode cL_law 1313 = .ok (.bipush 24, 2) := by decide +kernel
theorem dL_law_1315 : decode cL_law 1315 = .ok (.irem, 1) := by decide +kernel
theorem dL_law_1316 : decode cL_law 1316 = .ok (.invokestatic 123, 3) := by decide +kernel
theorem dL_law_1319 : decode cL_law 1319 = .ok (.ifCond .eq 34, 3) := by decide +kernel
theorem dL_law_1322 : decode cL_law 1322 = .ok (.aload_n 1, 1) := by decide +kernel
theorem dL_law_1323 : decode cL_law 1323 = .ok (.iconst 0, 1) := by decide +kernel
theorem dL_law_1324 : decode cL_law 1324 = .ok (.iload 10, 2) := by decide +kernel
theorem dL_law_1326 : decode cL_law 1326 = .ok (.aload_n 1, 1) := by decide +kernel
theorem dL_law_1327 : decode cL_law 1327 = .ok (.invokevirtual 41, 3) := by decide +kernel
theorem dL_law_1330 : decode cL_law 1330 = .ok (.irem, 1) := by decide +kernel
theorem dL_law_1331 : decode cL_law 1331 = .ok (.invokevirtual 49, 3) := by decide +kernel
theorem dL_law_1334 : decode cL_law 1334 = .ok (.aload_n 1, 1) := by decide +kernel
theorem dL_law_1335 : decode cL_law 1335 = .ok (.iload 10, 2) := by decide +kernel
theorem dL_law_1337 : decode cL_law 1337 = .ok (.aload_n 1, 1) := by decide +kernel
theorem dL_law_1338 : decode cL_law 1338 = .ok (.invokevirtual 41, 3) := by decide +kernel
theorem dL_law_1341 : decode cL_law 1341 = .ok (.irem, 1) := by decide +kernel
theorem dL_law_1342 : decode cL_law 1342 = .ok (.iconst 0, 1) := by decide +kernel
theorem dL_law_1343 : decode cL_law 1343 = .ok (.invokevirtual 49, 3) := by decide +kernel
theorem dL_law_1346 : decode cL_law 1346 = .ok (.if_icmp .ne 7, 3) := by decide +kernel
theorem dL_law_1349 : decode cL_law 1349 = .ok (.iconst 1, 1) := by decide +kernel
theorem dL_law_1350 : decode cL_law 1350 = .ok (.goto 4, 3) := by decide +kernel
theorem dL_law_1353 : decode cL_law 1353 = .ok (.iconst 0, 1) := by decide +kernel
theorem dL_law_1354 : decode cL_law 1354 = .ok (.istore 6, 2) := by decide +kernel
theorem dL_law_1356 : decode cL_law 1356 = .ok (.iinc 8 1, 3) := by decide +kernel
theorem dL_law_1359 : decode cL_law 1359 = .ok (.goto (-1286), 3) := by decide +kernel
theorem dL_law_1362 : decode cL_law 1362 = .ok (.iload 6, 2) := by decide +kernel
theorem dL_law_1364 : decode cL_law 1364 = .ok (.ireturn, 1) := by decide +kernel
end
section
/-! ===== whole numbers: an int as the Int that it is ===== -/
def iI (z : Int) : Int32 := Int32.ofInt z
def rg (z : Int) : Prop := -2147483648 ≤ z ∧ z < 2147483648
theorem rg_iff {z : Int} : rg z ↔ -2147483648 ≤ z ∧ z < 2147483648 := Iff.rfl
theorem iI_t {z : Int} (h : rg z) : (iI z).toInt = z := Int32.toInt_ofInt_of_le (by have := h.1; omega) (by have := h.2; omega)
theorem iI_of (x : Int32) : iI x.toInt = x := Int32.ofInt_toInt x
theorem rg_t (x : Int32) : rg x.toInt := ⟨by have := x.le_toInt; omega, by have := x.toInt_lt; omega⟩
theorem iI_add (a b : Int) : iI a + iI b = iI (a + b) := (Int32.ofInt_add a b).symm
theorem iI_sub (a b : Int) : iI a - iI b = iI (a - b) := (Int32.ofInt_sub a b).symm
theorem iI_mul (a b : Int) : iI a * iI b = iI (a * b) := (Int32.ofInt_mul a b).symm
theorem iI_neg (a : Int) : -(iI a) = iI (-a) := (Int32.ofInt_neg a).symm
theorem iI_0 : (0 : Int32) = iI 0 := by decide
theorem iI_lt {a b : Int} (ha : rg a) (hb : rg b) : iI a < iI b ↔ a < b := by rw [Int32.lt_iff_toInt_lt, iI_t ha, iI_t hb]
theorem iI_le {a b : Int} (ha : rg a) (hb : rg b) : iI a ≤ iI b ↔ a ≤ b := by rw [Int32.le_iff_toInt_le, iI_t ha, iI_t hb]
theorem iI_eq {a b : Int} (ha : rg a) (hb : rg b) : iI a = iI b ↔ a = b := by rw [← Int32.toInt_inj, iI_t ha, iI_t hb]
theorem rg0 : rg 0 := ⟨by decide, by decide⟩
theorem iI_in {z : Int} {n : Nat} (h0 : 0 ≤ z) (h1 : z < n) (hn : n ≤ 100000) : vp_in (iI z) n := vp_in_iff.mpr (by rw [iI_t ⟨by omega, by omega⟩]; exact ⟨h0, h1⟩)
theorem iI_cl {z : Int} (h0 : 0 ≤ z) (h1 : z < 2147483648) : (((iI z).toNatClampNeg : Nat) : Int) = z := by
  show (((iI z).toInt.toNat : Nat) : Int) = z
  rw [iI_t ⟨by omega, h1⟩]
  exact Int.toNat_of_nonneg h0
theorem iI_nat (n : Nat) : Int32.ofNat n = iI (n : Int) := (Int32.ofInt_eq_ofNat).symm
theorem rg_min {z : Int} (h : rg z) : Int32.minValue.toInt ≤ z := by
  have e : Int32.minValue.toInt = -2147483648 := by decide
  have := h.1
  omega
theorem rg_max {z : Int} (h : rg z) : z ≤ Int32.maxValue.toInt := by
  have e : Int32.maxValue.toInt = 2147483647 := by decide
  have := h.2
  omega
theorem iI_div {a b : Int} (ha : rg a) (hb : rg b) : iI a / iI b = iI (a.tdiv b) := (Int32.ofInt_tdiv (rg_min ha) (rg_max ha) (rg_min hb) (rg_max hb)).symm
theorem iI_rem {a b : Int} (ha : rg a) (hb : rg b) : iI a - iI a / iI b * iI b = iI (a.tmod b) := by
  rw [iI_div ha hb, iI_mul, iI_sub, Int.tmod_def, Int.mul_comm]
theorem iI_nn {a : Int} (h : rg a) (h0 : a ≠ 0) : ¬ iI a = 0 := by rw [iI_0, iI_eq h rg0]; exact h0
/-! ===== the store: cell and place to number ===== -/
abbrev gSt : Type := Nat → Int → Int
def ud (f : Int → Int) (j v : Int) : Int → Int := fun b => if b = j then v else f b
def st (S : gSt) (k : Nat) (j v : Int) : gSt := fun a => if a = k then ud (S a) j v else S a
theorem ud_s (f : Int → Int) (j v : Int) : ud f j v j = v := if_pos rfl
theorem ud_n {f : Int → Int} {j v b : Int} (h : b ≠ j) : ud f j v b = f b := if_neg h
theorem upd_ud (f : Int → Int) {z x : Int} (h0 : 0 ≤ z) (h1 : z < 2147483648) : upd (fun j : Nat => iI (f j)) (iI z).toNatClampNeg (iI x) = fun j : Nat => iI (ud f z x j) := by
  funext j
  have hc := iI_cl h0 h1
  by_cases h : j = (iI z).toNatClampNeg
  · subst h
    show (if _ then _ else _) = _
    rw [if_pos rfl, hc, ud_s]
  · have h2 : (j : Int) ≠ z := by omega
    show (if _ then _ else _) = _
    rw [if_neg h, ud_n h2]
/-! ===== the good words, the words of the nest ===== -/
def GL : List Cond := lw_tbl.filter goodWord
theorem gm (i : Nat) {w : Cond} (h : lw_tbl[i]? = some w) (hg : goodWord w = true) : w ∈ GL := List.mem_filter.mpr ⟨List.mem_of_getElem? h, hg⟩
def isNest : Cond → Bool
  | .fieldLinkNest _ _ _ _ _ _ => true
  | .methodLinkNest _ _ _ _ => true
  | .castable _ _ => true
  | .declares _ => true
  | _ => false
def NL : List Cond := lw_tbl.filter isNest
theorem nmm (i : Nat) {w : Cond} (h : lw_tbl[i]? = some w) (hg : isNest w = true) : w ∈ NL := List.mem_filter.mpr ⟨List.mem_of_getElem? h, hg⟩
theorem nest_warm {w : Cond} (hg : isNest w = true) {s U : State} (hW : s.WarmedH U.vm) (h : va_Nw w s) : va_Nw w U := by
  cases w <;> first | exact va_Nw.warmF hW h | exact va_Nw.warmM hW h | exact va_Nw.warmC hW h | exact va_Nw.warmD hW h | cases hg
theorem nest_on {w : Cond} (hg : isNest w = true) : w.onTables = true := by
  cases w <;> first | rfl | cases hg
/-! ===== the world: twenty-three cells at fixed addresses ===== -/
/-- addresses of the cells, class numbers and slots, classes of int[] and long[], addresses of the texts -/
abbrev gT : Type := (Nat → Nat) × va_G × ClassId × ClassId × (Nat → Nat)
abbrev kA (g : gT) (S : gSt) (k n : Nat) : Nat × va_E := (g.1 k, .inl (g.2.2.1, n, .inl (fun j : Nat => iI (S k j))))
def Wl (g : gT) (S : gSt) : va_W := [
  (g.1 0, .inr (5, [.ref (g.1 1), .ref (g.1 4), .ref (g.1 8), .ref (g.1 12), .ref (g.1 17)])),
  (g.1 1, .inr (1, [.int (iI (S 1 0)), .ref (g.1 2), .ref (g.1 3)])), kA g S 2 24, kA g S 3 24,
  (g.1 4, .inr (4, [.int (iI (S 4 0)), .ref (g.1 5), .ref (g.1 6), .ref (g.1 7)])), kA g S 5 8, kA g S 6 80, kA g S 7 80,
  (g.1 8, .inr (0, [.ref (g.1 9), .ref (g.1 10), .ref (g.1 11)])), kA g S 9 48, kA g S 10 80, kA g S 11 8,
  (g.1 12, .inr (3, [.int (iI (S 12 0)), .ref (g.1 13), .ref (g.1 14), .ref (g.1 15), .ref (g.1 16)])), kA g S 13 12, kA g S 14 12, kA g S 15 12, kA g S 16 12,
  (g.1 17, .inr (2, [.int (iI (S 17 0)), .int (iI (S 17 1)), .ref (g.1 18), .ref (g.1 19), .ref (g.1 20), .ref (g.1 21), .ref (g.1 22)])), kA g S 18 30, kA g S 19 30, kA g S 20 30, kA g S 21 30, kA g S 22 30]
theorem Wl_ad (g : gT) (S : gSt) : (Wl g S).map (fun q => q.1) = (List.range 23).map g.1 := rfl
theorem Wl_at {g : gT} {S : gSt} {i : Nat} {q : Nat × va_E} (h : (Wl g S)[i]? = some q) : i < 23 ∧ q.1 = g.1 i := by
  have h1 : ((Wl g S).map (fun q => q.1))[i]? = some q.1 := by rw [List.getElem?_map, h]; rfl
  rw [Wl_ad, List.getElem?_map] at h1
  have hi : i < 23 := by
    by_cases hi : i < 23
    · exact hi
    · rw [List.getElem?_eq_none (by simp; omega)] at h1; cases h1
  refine ⟨hi, ?_⟩
  rw [List.getElem?_range hi] at h1
  exact (Option.some.inj h1).symm
def oA (g : gT) : Nat → Prop := fun q => ∃ k : Nat, k < 23 ∧ q = g.1 k
/-- which exception isn't another one -/
def NCL : List (String × String) := [("java/lang/IllegalStateException", "java/lang/IllegalArgumentException")]
/-- the texts of the class, warm -/
def SW (g : gT) (U : State) : Prop := ∀ (k : Nat) (tx : String), Cond.stringRef "SkyLoom" k tx ∈ lw_tbl → vk_R "SkyLoom" k tx (g.2.2.2.2 k) U
def GG (g : gT) (U : State) : Prop :=
  (∀ w ∈ GL, w.before #[] U = true) ∧ (∀ w ∈ NL, va_Nw w U) ∧ va_K g.2.1 vwCl [(g.2.2.1, .int), (g.2.2.2.1, .long)] U ∧ (∀ i j : Nat, i < 23 → j < 23 → g.1 i = g.1 j → i = j) ∧ SW g U ∧ ∀ q ∈ NCL, va_Nc q.1 q.2 U
theorem GG.w {g : gT} {s : State} {args : Array Value} {w : Cond} (h : GG g s) (hw : w ∈ GL) : w.before args s = true :=
  word_at (State.WarmedH.refl s) (good_of_word (List.mem_filter.mp hw).2) (h.1 w hw)
theorem GG.n {g : gT} {s : State} {args : Array Value} {w : Cond} (h : GG g s) (hw : w ∈ NL) : w.before args s = true :=
  va_Nw.use (nest_on (List.mem_filter.mp hw).2) (h.2.1 w hw)
theorem GG.k {g : gT} {s : State} (h : GG g s) : va_K g.2.1 vwCl [(g.2.2.1, .int), (g.2.2.2.1, .long)] s := h.2.2.1
theorem GG.moved {g : gT} {s U : State} (hW : s.WarmedH U.vm) (h : GG g s) : GG g U :=
  ⟨fun w hw => word_at hW (good_of_word (List.mem_filter.mp hw).2) (h.1 w hw), fun w hw => nest_warm (List.mem_filter.mp hw).2 hW (h.2.1 w hw), va_K.moved hW.alike h.k, h.2.2.2.1, fun k tx hk => vk_R.warm hW (h.2.2.2.2.1 k tx hk), fun q hq => va_Nc.moved hW.alike (h.2.2.2.2.2 q hq)⟩
theorem GG.dd {g : gT} {s : State} (h : GG g s) (S : gSt) : va_D (oA g) (Wl g S) :=
  ⟨fun i j p q hi hj e => h.2.2.2.1 i j (Wl_at hi).1 (Wl_at hj).1 ((Wl_at hi).2.symm.trans (e.trans (Wl_at hj).2)), fun k q hk => ⟨k, (Wl_at hk).1, (Wl_at hk).2⟩⟩
/-- the two statics of Throwable that a throw looks at -/
def ZZ (A : Nat → Prop) (U : State) (H : Heap) : Prop := vx_Zq Bundle.tN "UNASSIGNED_STACK" Bundle.steD A U H ∧ vx_Zq Bundle.tN "SUPPRESSED_SENTINEL" Bundle.listD A U H
theorem ZZ.moved {A : Nat → Prop} {u U : State} {H : Heap} (hvm : u.vm.Alike U.vm) (h : ZZ A u H) : ZZ A U H := ⟨vx_Zq.moved hvm h.1, vx_Zq.moved hvm h.2⟩
theorem ZZ.kept {A : Nat → Prop} {U : State} {H H1 : Heap} (h : ZZ A U H) (hq : ∀ a : Nat, a < H.size → ¬ A a → H1[a]? = H[a]?) : ZZ A U H1 := ⟨vx_Zq.kept h.1 hq, vx_Zq.kept h.2 hq⟩
/-! ===== contracts ===== -/
def PreG (g : gT) (av : List Value) (S : gSt) : Array Value → State → Prop := va_Pc av (fun U => GG g U ∧ ZZ (oA g) U U.heap ∧ va_P g.2.1 vwCl (Wl g S) U.heap)
def RetG (g : gT) (v : Option Value) (S' : gSt) : Array Value → State → Outcome → State → Prop := fun _ st o t => o = .returned v ∧ va_P g.2.1 vwCl (Wl g S') t.heap ∧ va_F (oA g) st t
def XG (g : gT) (S' : gSt) (E : String) : String → State → State → Prop := fun E' st t => E' = E ∧ va_P g.2.1 vwCl (Wl g S') t.heap ∧ va_F (oA g) st t
def MetG (l : Launch) (g : gT) (y : MethodName) (cc : ByteArray) (nL : Nat) (ret : Option FieldType) (fr lo : Nat) (av : List Value) (S : gSt) (v : Option Value) (S' : gSt) : Prop :=
  Met l y [.code y cc nL ret] { frames := fr, cells := 0, slots := 0, locals := lo } (PreG g av S) (RetG g v S') 0 0 (oA g)
def ThrG (l : Launch) (g : gT) (y : MethodName) (cc : ByteArray) (nL : Nat) (ret : Option FieldType) (fr lo : Nat) (av : List Value) (S : gSt) (E : String) (S' : gSt) : Prop :=
  vx_Met l y [.code y cc nL ret] { frames := fr, cells := 1, slots := 6, locals := lo } (PreG g av S) (fun _ _ _ _ => False) (XG g S' E) 1 6 (oA g)
theorem PreG.blind (g : gT) (av : List Value) (S : gSt) : FrameBlind (PreG g av S) := by
  intro a U gf mk q
  obtain ⟨q0, q1, q2, q3⟩ := q
  refine ⟨q0, GG.moved (s := U) (U := U.calling gf mk a) (State.WarmedH.refl U) q1, ZZ.moved (u := U) (U := U.calling gf mk a) (Vm.Alike.refl U.vm) q2, q3⟩
/-- what a body stands on -/
def Ct (p : Program) (s : State) (m : MethodId) (args : Array Value) (c : Code) (g : gT) (own : String) (cc : ByteArray) (nL : Nat) : Prop :=
  p.tables.exec = Jvm.exec ∧ c.code = cc ∧ c.maxLocals = nL ∧ s.vm.findClass own = some m.cls ∧ GG g s ∧ ZZ (oA g) s s.heap
/-- the heap: the world with the numbers S, nothing else changed -/
def Hp (g : gT) (S : gSt) (s : State) (H : Heap) (locs : List Loc) : Prop := va_P g.2.1 vwCl (Wl g S) H ∧ va_S (oA g) s.heap H locs
section BG
variable {l : Launch} {g : gT} {y : MethodName} {cc : ByteArray} {nL fr lo : Nat} {ret : Option FieldType} {av : List Value} {S S' : gSt} {v : Option Value} {E : String}
/-- a body opened, whatever its class's name, where no native stands in its place -/
theorem ofWF {ws ws' : List Cond} {rm : Room} {Pc : Array Value → State → Prop} {Qc : Array Value → State → Outcome → State → Prop} {mc ms : Nat} {free : Addr → Prop}
    (hy : plainFor y = true) (hw : ws = Cond.code y cc nL ret :: ws')
    (body : ∀ p e s m args below meth c s₁, BodyLoose p l y (headSpec ws rm) cc nL ret e s m args below meth c s₁ → c.maxLocals = nL → Pc args s →
      W p l e (headSpec ws rm).room s m args below meth c s.heap [] 0 0 (MQ below Qc args s mc ms free) (entryFrame m args nL)) : Met l y ws rm Pc Qc mc ms free := by
  refine MetFree.of_bodySF (code := cc) (maxLocals := nL) (ret := ret) hy ?_ ?_
  · intro args s m h hn
    obtain ⟨meth, c, h1, h2, h3, h4, h5, h6, -, -⟩ := Cond.code_spec hn (atoms_spec (ws := ws) h _ (by rw [hw]; exact List.mem_cons_self))
    exact ⟨meth, c, h1, h2, h3, h4, h5, h6⟩
  · intro p e s m args below meth c s₁ B hml hP _
    have hh0 : s₁.heap = s.heap := by rw [B.state]; rfl
    obtain ⟨t, a1, o, b1, b2, b3⟩ := body p e s m args below meth c s₁ B hml hP s₁ hh0 (Stand.of_body B)
    exact ⟨t, o, a1, b1, b2, ⟨b3.1, b3.2⟩⟩
theorem bodyG (hy : plainFor y = true) (hlen : (lg_sl av).length ≤ nL)
    (h : ∀ (p : Program) (e : Env) (s : State) (m : MethodId) (args : Array Value) (below : List Frame) (meth : Method) (c : Code) (ls : Array Slot), Ct p s m args c g y.cls cc nL → meth.sig.returnType = ret → meth.locks = false → lv_has ls nL (lv_args 0 av) → Hp g S s s.heap [] →
      W p l e { frames := fr, cells := 0, slots := 0, locals := lo } s m args below meth c s.heap [] 0 0 (MQ below (RetG g v S') args s 0 0 (oA g)) (F0 m 0 ls [])) : MetG l g y cc nL ret fr lo av S v S' := by
  refine ofWF (cc := cc) (nL := nL) (ret := ret) hy rfl ?_
  intro p e s m args below meth c s₁ B hml hv
  obtain ⟨rfl, hG, hZ, hP⟩ := hv
  have hl := lv_entry av (n := nL) hlen
  rw [lg_entry_eq]
  exact h p e s m _ below meth c _ ⟨B.exec, B.bytes, hml, findClass_of_methodNamed B.named, hG, hZ⟩ B.returns B.notSynchronized hl ⟨hP, va_S.rf⟩
theorem bodyX (hy : plainName y.cls = true) (hlen : (lg_sl av).length ≤ nL)
    (h : ∀ (p : Program) (e : Env) (s : State) (m : MethodId) (args : Array Value) (below : List Frame) (meth : Method) (c : Code) (ls : Array Slot), Ct p s m args c g y.cls cc nL → (∀ x ∈ c.exceptionTable.toList, False) → meth.locks = false → lv_has ls nL (lv_args 0 av) → Hp g S s s.heap [] →
      W p l e { frames := fr, cells := 1, slots := 6, locals := lo } s m args below meth c s.heap [] 0 0 (vx_MQ below (fun _ _ _ _ => False) (XG g S' E) args s 1 6 (oA g)) (F0 m 0 ls [])) : ThrG l g y cc nL ret fr lo av S E S' := by
  refine vx_ofW (cc := cc) (maxL := nL) (ret := ret) hy rfl ?_
  intro p e s m args below meth c s₁ B hml ht hv
  obtain ⟨rfl, hG, hZ, hP⟩ := hv
  have hl := lv_entry av (n := nL) hlen
  rw [lg_entry_eq]
  exact h p e s m _ below meth c _ ⟨B.exec, B.bytes, hml, findClass_of_methodNamed B.named, hG, hZ⟩ ht B.notSynchronized hl ⟨hP, va_S.rf⟩
end BG
section RW
variable {p : Program} {l : Launch} {e : Env} {R : Room} {s : State} {m : MethodId} {args : Array Value} {below : List Frame} {meth : Method} {c : Code} {H : Heap} {locs : List Loc} {cells slots : Nat} {Q : State → Prop}
variable {g : gT} {own : String} {cc : ByteArray} {nL : Nat} {S S' : gSt} {pc : Nat} {ls : Array Slot} {rest : List Value}
/-! returns -/
theorem retI (C : Ct p s m args c g own cc nL) (hr : meth.sig.returnType = some .int) (hk : meth.locks = false) (hH : Hp g S s H locs) {z r : Int} (hz : z = r) (hS : S = S') (hdg : decode cc pc = .ok (.ireturn, 1)) :
    W p l e R s m args below meth c H locs 0 0 (MQ below (RetG g (some (.int (iI r))) S') args s 0 0 (oA g)) (F0 m pc ls [.int (iI z)]) := by
  subst hz; subst hS
  exact W.iret C.1 C.2.1 hr (fun t ht hW => ⟨rfl, by rw [ht]; exact hH.1, hH.2.F ht⟩) hH.2.2.2 hdg hk
theorem retZ (C : Ct p s m args c g own cc nL) (hr : meth.sig.returnType = some .boolean) (hk : meth.locks = false) (hH : Hp g S s H locs) {z r : Int} (hz : z = r) (hb : z = 0 ∨ z = 1) (hS : S = S') (hdg : decode cc pc = .ok (.ireturn, 1)) :
    W p l e R s m args below meth c H locs 0 0 (MQ below (RetG g (some (.int (iI r))) S') args s 0 0 (oA g)) (F0 m pc ls [.int (iI z)]) := by
  subst hz; subst hS
  exact W.zret C.1 C.2.1 hr (by rcases hb with rfl | rfl <;> rfl) (fun t ht hW => ⟨rfl, by rw [ht]; exact hH.1, hH.2.F ht⟩) hH.2.2.2 hdg hk
theorem retV (C : Ct p s m args c g own cc nL) (hr : meth.sig.returnType = none) (hk : meth.locks = false) (hH : Hp g S s H locs) (hS : S = S') (hdg : decode cc pc = .ok (.return_, 1)) :
    W p l e R s m args below meth c H locs 0 0 (MQ below (RetG g none S') args s 0 0 (oA g)) (F0 m pc ls []) := by
  subst hS
  exact W.vret C.1 C.2.1 hr (fun t ht hW => ⟨rfl, by rw [ht]; exact hH.1, hH.2.F ht⟩) hH.2.2.2 hdg hk
/-! numbers -/
theorem bi_const (hx : p.tables.exec = Jvm.exec) (hb : c.code = cc) {n : Int} (hdg : decode cc pc = .ok (.iconst n, 1))
    (k : W p l e R s m args below meth c H locs cells slots Q (F0 m (pc + 1) ls (.int (iI n) :: rest))) : W p l e R s m args below meth c H locs cells slots Q (F0 m pc ls rest) := lv_iconst hx hb hdg rfl k
theorem bi_bip (hx : p.tables.exec = Jvm.exec) (hb : c.code = cc) {n : Int} (hdg : decode cc pc = .ok (.bipush n, 2)) (hv : (Int8.ofInt n).toInt32 = iI n)
    (k : W p l e R s m args below meth c H locs cells slots Q (F0 m (pc + 2) ls (.int (iI n) :: rest))) : W p l e R s m args below meth c H locs cells slots Q (F0 m pc ls rest) := lv_bipush hx hb hdg hv k
theorem bi_sip (hx : p.tables.exec = Jvm.exec) (hb : c.code = cc) {n : Int} (hdg : decode cc pc = .ok (.sipush n, 3)) (hv : (Int16.ofInt n).toInt32 = iI n)
    (k : W p l e R s m args below meth c H locs cells slots Q (F0 m (pc + 3) ls (.int (iI n) :: rest))) : W p l e R s m args below meth c H locs cells slots Q (F0 m pc ls rest) := lv_sipush hx hb hdg hv k
theorem bi_add (hx : p.tables.exec = Jvm.exec) (hb : c.code = cc) {a b : Int} (hdg : decode cc pc = .ok (.iadd, 1))
    (k : W p l e R s m args below meth c H locs cells slots Q (F0 m (pc + 1) ls (.int (iI (a + b)) :: rest))) : W p l e R s m args below meth c H locs cells slots Q (F0 m pc ls (.int (iI b) :: .int (iI a) :: rest)) := lv_iadd hx hb hdg (by rw [iI_add]; exact k)
theorem bi_sub (hx : p.tables.exec = Jvm.exec) (hb : c.code = cc) {a b : Int} (hdg : decode cc pc = .ok (.isub, 1))
    (k : W p l e R s m args below meth c H locs cells slots Q (F0 m (pc + 1) ls (.int (iI (a - b)) :: rest))) : W p l e R s m args below meth c H locs cells slots Q (F0 m pc ls (.int (iI b) :: .int (iI a) :: rest)) := lv_isub hx hb hdg (by rw [iI_sub]; exact k)
theorem bi_mul (hx : p.tables.exec = Jvm.exec) (hb : c.code = cc) {a b : Int} (hdg : decode cc pc = .ok (.imul, 1))
    (k : W p l e R s m args below meth c H locs cells slots Q (F0 m (pc + 1) ls (.int (iI (a * b)) :: rest))) : W p l e R s m args below meth c H locs cells slots Q (F0 m pc ls (.int (iI b) :: .int (iI a) :: rest)) := lv_imul hx hb hdg (by rw [iI_mul]; exact k)
theorem bi_neg (hx : p.tables.exec = Jvm.exec) (hb : c.code = cc) {a : Int} (hdg : decode cc pc = .ok (.ineg, 1))
    (k : W p l e R s m args below meth c H locs cells slots Q (F0 m (pc + 1) ls (.int (iI (-a)) :: rest))) : W p l e R s m args below meth c H locs cells slots Q (F0 m pc ls (.int (iI a) :: rest)) := lv_ineg hx hb hdg (by rw [iI_neg]; exact k)
theorem bi_div (hx : p.tables.exec = Jvm.exec) (hb : c.code = cc) {a b : Int} (hdg : decode cc pc = .ok (.idiv, 1)) (ha : rg a) (hbr : rg b) (h0 : b ≠ 0)
    (k : W p l e R s m args below meth c H locs cells slots Q (F0 m (pc + 1) ls (.int (iI (a.tdiv b)) :: rest))) : W p l e R s m args below meth c H locs cells slots Q (F0 m pc ls (.int (iI b) :: .int (iI a) :: rest)) := lv_idiv hx hb hdg (iI_nn hbr h0) (by rw [iI_div ha hbr]; exact k)
theorem bi_rem (hx : p.tables.exec = Jvm.exec) (hb : c.code = cc) {a b : Int} (hdg : decode cc pc = .ok (.irem, 1)) (ha : rg a) (hbr : rg b) (h0 : b ≠ 0)
    (k : W p l e R s m args below meth c H locs cells slots Q (F0 m (pc + 1) ls (.int (iI (a.tmod b)) :: rest))) : W p l e R s m args below meth c H locs cells slots Q (F0 m pc ls (.int (iI b) :: .int (iI a) :: rest)) := lv_irem hx hb hdg (iI_nn hbr h0) (by rw [iI_rem ha hbr]; exact k)
theorem bi_inc (hx : p.tables.exec = Jvm.exec) (hb : c.code = cc) {i n0 k0 : Nat} {n z : Int} {lv lv' : List (Nat × Value)} (hdg : decode cc pc = .ok (.iinc i n, 3)) (h : lv_has ls n0 lv) (hk : lv[k0]? = some (i, .int (iI z))) (hn : i < n0) (hl : (i, Value.int (iI (z + n))) :: lv.filter (fun q => !(q.1 == i) && !(q.1 + 1 == i && q.2.category == 2)) = lv')
    (kk : ∀ ls' : Array Slot, lv_has ls' n0 lv' → W p l e R s m args below meth c H locs cells slots Q (F0 m (pc + 3) ls' rest)) : W p l e R s m args below meth c H locs cells slots Q (F0 m pc ls rest) := lv_iinc (v := iI (z + n)) hx hb hdg h hk (iI_add z n) hn hl kk
/-! branches -/
theorem bq_eq (hx : p.tables.exec = Jvm.exec) (hb : c.code = cc) {a b off : Int} {tgt : Nat} (hdg : decode cc pc = .ok (.if_icmp .eq off, 3)) (ht : (pc : Int) + off = (tgt : Int)) (ra : rg a) (rb : rg b)
    (kt : a = b → W p l e R s m args below meth c H locs cells slots Q (F0 m tgt ls rest)) (kf : a ≠ b → W p l e R s m args below meth c H locs cells slots Q (F0 m (pc + 3) ls rest)) : W p l e R s m args below meth c H locs cells slots Q (F0 m pc ls (.int (iI b) :: .int (iI a) :: rest)) :=
  lv_icmp_eq hx hb hdg ht (fun h => kt ((iI_eq ra rb).mp h)) (fun h => kf (fun q => h ((iI_eq ra rb).mpr q)))
theorem bq_ne (hx : p.tables.exec = Jvm.exec) (hb : c.code = cc) {a b off : Int} {tgt : Nat} (hdg : decode cc pc = .ok (.if_icmp .ne off, 3)) (ht : (pc : Int) + off = (tgt : Int)) (ra : rg a) (rb : rg b)
    (kt : a ≠ b → W p l e R s m args below meth c H locs cells slots Q (F0 m tgt ls rest)) (kf : a = b → W p l e R s m args below meth c H locs cells slots Q (F0 m (pc + 3) ls rest)) : W p l e R s m args below meth c H locs cells slots Q (F0 m pc ls (.int (iI b) :: .int (iI a) :: rest)) :=
  lv_icmp_ne hx hb hdg ht (fun h => kt (fun q => h ((iI_eq ra rb).mpr q))) (fun h => kf ((iI_eq ra rb).mp h))
theorem bq_lt (hx : p.tables.exec = Jvm.exec) (hb : c.code = cc) {a b off : Int} {tgt : Nat} (hdg : decode cc pc = .ok (.if_icmp .lt off, 3)) (ht : (pc : Int) + off = (tgt : Int)) (ra : rg a) (rb : rg b)
    (kt : a < b → W p l e R s m args below meth c H locs cells slots Q (F0 m tgt ls rest)) (kf : b ≤ a → W p l e R s m args below meth c H locs cells slots Q (F0 m (pc + 3) ls rest)) : W p l e R s m args below meth c H locs cells slots Q (F0 m pc ls (.int (iI b) :: .int (iI a) :: rest)) :=
  lv_icmp_lt hx hb hdg ht (fun h => kt ((iI_lt ra rb).mp h)) (fun h => kf (Int.not_lt.mp (fun q => h ((iI_lt ra rb).mpr q))))
theorem bq_ge (hx : p.tables.exec = Jvm.exec) (hb : c.code = cc) {a b off : Int} {tgt : Nat} (hdg : decode cc pc = .ok (.if_icmp .ge off, 3)) (ht : (pc : Int) + off = (tgt : Int)) (ra : rg a) (rb : rg b)
    (kt : b ≤ a → W p l e R s m args below meth c H locs cells slots Q (F0 m tgt ls rest)) (kf : a < b → W p l e R s m args below meth c H locs cells slots Q (F0 m (pc + 3) ls rest)) : W p l e R s m args below meth c H locs cells slots Q (F0 m pc ls (.int (iI b) :: .int (iI a) :: rest)) :=
  lv_icmp_ge hx hb hdg ht (fun h => kt ((iI_le rb ra).mp h)) (fun h => kf (Int.not_le.mp (fun q => h ((iI_le rb ra).mpr q))))
theorem bq_gt (hx : p.tables.exec = Jvm.exec) (hb : c.code = cc) {a b off : Int} {tgt : Nat} (hdg : decode cc pc = .ok (.if_icmp .gt off, 3)) (ht : (pc : Int) + off = (tgt : Int)) (ra : rg a) (rb : rg b)
    (kt : b < a → W p l e R s m args below meth c H locs cells slots Q (F0 m tgt ls rest)) (kf : a ≤ b → W p l e R s m args below meth c H locs cells slots Q (F0 m (pc + 3) ls rest)) : W p l e R s m args below meth c H locs cells slots Q (F0 m pc ls (.int (iI b) :: .int (iI a) :: rest)) :=
  lv_icmp_gt hx hb hdg ht (fun h => kt ((iI_lt rb ra).mp h)) (fun h => kf (Int.not_lt.mp (fun q => h ((iI_lt rb ra).mpr q))))
theorem bq_le (hx : p.tables.exec = Jvm.exec) (hb : c.code = cc) {a b off : Int} {tgt : Nat} (hdg : decode cc pc = .ok (.if_icmp .le off, 3)) (ht : (pc : Int) + off = (tgt : Int)) (ra : rg a) (rb : rg b)
    (kt : a ≤ b → W p l e R s m args below meth c H locs cells slots Q (F0 m tgt ls rest)) (kf : b < a → W p l e R s m args below meth c H locs cells slots Q (F0 m (pc + 3) ls rest)) : W p l e R s m args below meth c H locs cells slots Q (F0 m pc ls (.int (iI b) :: .int (iI a) :: rest)) :=
  lv_icmp_le hx hb hdg ht (fun h => kt ((iI_le ra rb).mp h)) (fun h => kf (Int.not_le.mp (fun q => h ((iI_le ra rb).mpr q))))
theorem bz_eq (hx : p.tables.exec = Jvm.exec) (hb : c.code = cc) {a off : Int} {tgt : Nat} (hdg : decode cc pc = .ok (.ifCond .eq off, 3)) (ht : (pc : Int) + off = (tgt : Int)) (ra : rg a)
    (kt : a = 0 → W p l e R s m args below meth c H locs cells slots Q (F0 m tgt ls rest)) (kf : a ≠ 0 → W p l e R s m args below meth c H locs cells slots Q (F0 m (pc + 3) ls rest)) : W p l e R s m args below meth c H locs cells slots Q (F0 m pc ls (.int (iI a) :: rest)) :=
  lv_if_eq hx hb hdg ht (fun h => kt ((iI_eq ra rg0).mp (h.trans iI_0))) (fun h => kf (fun q => h (((iI_eq ra rg0).mpr q).trans iI_0.symm)))
theorem bz_ne (hx : p.tables.exec = Jvm.exec) (hb : c.code = cc) {a off : Int} {tgt : Nat} (hdg : decode cc pc = .ok (.ifCond .ne off, 3)) (ht : (pc : Int) + off = (tgt : Int)) (ra : rg a)
    (kt : a ≠ 0 → W p l e R s m args below meth c H locs cells slots Q (F0 m tgt ls rest)) (kf : a = 0 → W p l e R s m args below meth c H locs cells slots Q (F0 m (pc + 3) ls rest)) : W p l e R s m args below meth c H locs cells slots Q (F0 m pc ls (.int (iI a) :: rest)) :=
  lv_if_ne hx hb hdg ht (fun h => kt (fun q => h (((iI_eq ra rg0).mpr q).trans iI_0.symm))) (fun h => kf ((iI_eq ra rg0).mp (h.trans iI_0)))
theorem bz_lt (hx : p.tables.exec = Jvm.exec) (hb : c.code = cc) {a off : Int} {tgt : Nat} (hdg : decode cc pc = .ok (.ifCond .lt off, 3)) (ht : (pc : Int) + off = (tgt : Int)) (ra : rg a)
    (kt : a < 0 → W p l e R s m args below meth c H locs cells slots Q (F0 m tgt ls rest)) (kf : 0 ≤ a → W p l e R s m args below meth c H locs cells slots Q (F0 m (pc + 3) ls rest)) : W p l e R s m args below meth c H locs cells slots Q (F0 m pc ls (.int (iI a) :: rest)) :=
  lv_if_lt hx hb hdg ht (fun h => kt ((iI_lt ra rg0).mp (by rw [← iI_0]; exact h))) (fun h => kf (Int.not_lt.mp (fun q => h (by rw [iI_0]; exact (iI_lt ra rg0).mpr q))))
theorem bz_ge (hx : p.tables.exec = Jvm.exec) (hb : c.code = cc) {a off : Int} {tgt : Nat} (hdg : decode cc pc = .ok (.ifCond .ge off, 3)) (ht : (pc : Int) + off = (tgt : Int)) (ra : rg a)
    (kt : 0 ≤ a → W p l e R s m args below meth c H locs cells slots Q (F0 m tgt ls rest)) (kf : a < 0 → W p l e R s m args below meth c H locs cells slots Q (F0 m (pc + 3) ls rest)) : W p l e R s m args below meth c H locs cells slots Q (F0 m pc ls (.int (iI a) :: rest)) :=
  lv_if_ge hx hb hdg ht (fun h => kt ((iI_le rg0 ra).mp (by rw [← iI_0]; exact h))) (fun h => kf (Int.not_le.mp (fun q => h (by rw [iI_0]; exact (iI_le rg0 ra).mpr q))))
theorem bz_gt (hx : p.tables.exec = Jvm.exec) (hb : c.code = cc) {a off : Int} {tgt : Nat} (hdg : decode cc pc = .ok (.ifCond .gt off, 3)) (ht : (pc : Int) + off = (tgt : Int)) (ra : rg a)
    (kt : 0 < a → W p l e R s m args below meth c H locs cells slots Q (F0 m tgt ls rest)) (kf : a ≤ 0 → W p l e R s m args below meth c H locs cells slots Q (F0 m (pc + 3) ls rest)) : W p l e R s m args below meth c H locs cells slots Q (F0 m pc ls (.int (iI a) :: rest)) :=
  lv_if_gt hx hb hdg ht (fun h => kt ((iI_lt rg0 ra).mp (by rw [← iI_0]; exact h))) (fun h => kf (Int.not_lt.mp (fun q => h (by rw [iI_0]; exact (iI_lt rg0 ra).mpr q))))
theorem bz_le (hx : p.tables.exec = Jvm.exec) (hb : c.code = cc) {a off : Int} {tgt : Nat} (hdg : decode cc pc = .ok (.ifCond .le off, 3)) (ht : (pc : Int) + off = (tgt : Int)) (ra : rg a)
    (kt : a ≤ 0 → W p l e R s m args below meth c H locs cells slots Q (F0 m tgt ls rest)) (kf : 0 < a → W p l e R s m args below meth c H locs cells slots Q (F0 m (pc + 3) ls rest)) : W p l e R s m args below meth c H locs cells slots Q (F0 m pc ls (.int (iI a) :: rest)) :=
  lv_if_le hx hb hdg ht (fun h => kt ((iI_le ra rg0).mp (by rw [← iI_0]; exact h))) (fun h => kf (Int.not_le.mp (fun q => h (by rw [iI_0]; exact (iI_le ra rg0).mpr q))))
/-! fields and arrays of the world -/
theorem gfG {C ref : String} {T : u_T} {N ci index : Nat} (C0 : Ct p s m args c g own cc nL) (hH : Hp g S s H locs) (k : Nat) {fs : List Value} (he : (Wl g S)[k]? = some (g.1 k, .inr (ci, fs))) (hc : vwCl[ci]? = some (C, T, N)) (hin : ∀ w ∈ u_ws C T N, w ∈ GL) (j : Nat) (hj : j < N)
    (hlink : Cond.fieldLink own index ref (T j).2.1 (T j).2.2.1 ∈ GL) (href : ref = (T j).1) {v : Value} (hv : fs[j]? = some v) (hdg : decode cc pc = .ok (.getfield index, 3))
    (kk : W p l e R s m args below meth c H locs cells slots Q (F0 m (pc + 3) ls (v :: rest))) : W p l e R s m args below meth c H locs cells slots Q (F0 m pc ls (.ref (g.1 k) :: rest)) :=
  va_get (Ts := GL) (own := own) (ref := ref) (C := C) (T := T) (N := N) (ci := ci) C0.1 C0.2.1 (fun w hw => C0.2.2.2.2.1.w hw) hin C0.2.2.2.1 C0.2.2.2.2.1.k hH.1 k he hc j hj (C0.2.2.2.2.1.w hlink) (fun _ h => by rw [href]; exact h) hv hdg kk
theorem gnG {C ref host : String} {T : u_T} {N ci index : Nat} (C0 : Ct p s m args c g own cc nL) (hH : Hp g S s H locs) (k : Nat) {fs : List Value} (he : (Wl g S)[k]? = some (g.1 k, .inr (ci, fs))) (hc : vwCl[ci]? = some (C, T, N)) (hin : ∀ w ∈ u_ws C T N, w ∈ GL) (j : Nat) (hj : j < N)
    (hlink : Cond.fieldLinkNest own index ref (T j).2.1 (T j).2.2.1 host ∈ NL) (href : ref = (T j).1) {v : Value} (hv : fs[j]? = some v) (hdg : decode cc pc = .ok (.getfield index, 3))
    (kk : W p l e R s m args below meth c H locs cells slots Q (F0 m (pc + 3) ls (v :: rest))) : W p l e R s m args below meth c H locs cells slots Q (F0 m pc ls (.ref (g.1 k) :: rest)) :=
  va_getN (Ts := GL) (own := own) (ref := ref) (C := C) (host := host) (T := T) (N := N) (ci := ci) C0.1 C0.2.1 (fun w hw => C0.2.2.2.2.1.w hw) hin C0.2.2.2.1 C0.2.2.2.2.1.k hH.1 k he hc j hj (C0.2.2.2.2.1.n hlink) (fun _ h => by rw [href]; exact h) hv hdg kk
theorem pfG {C ref : String} {T : u_T} {N ci index : Nat} (C0 : Ct p s m args c g own cc nL) (hH : Hp g S s H locs) (k : Nat) {fs : List Value} (he : (Wl g S)[k]? = some (g.1 k, .inr (ci, fs))) (hc : vwCl[ci]? = some (C, T, N)) (hin : ∀ w ∈ u_ws C T N, w ∈ GL) (ty0 : Nat → FieldType) (hty : ∀ k, k < N → parseFieldDescriptor (T k).2.2.1 = some (ty0 k)) (hnm : ∀ a, a < N → ∀ b, b < N → a ≠ b → (T a).2.1 ≠ (T b).2.1) (j : Nat) (hj : j < N)
    (hlink : Cond.fieldLink own index ref (T j).2.1 (T j).2.2.1 ∈ GL) (href : ref = (T j).1) (hfin : (T j).2.2.2 = false) (hd : parseFieldDescriptor (T j).2.2.1 = some .int) (hl : j < fs.length) {z : Int}
    (hset : (Wl g S).set k (g.1 k, .inr (ci, fs.set j (.int (iI z)))) = Wl g S') (hdg : decode cc pc = .ok (.putfield index, 3))
    (kk : ∀ (H1 : Heap) (locs1 : List Loc), Hp g S' s H1 locs1 → W p l e R s m args below meth c H1 locs1 cells slots Q (F0 m (pc + 3) ls rest)) : W p l e R s m args below meth c H locs cells slots Q (F0 m pc ls (.int (iI z) :: .ref (g.1 k) :: rest)) :=
  va_put (Ts := GL) (own := own) (ref := ref) (C := C) (T := T) (N := N) (ci := ci) C0.1 C0.2.1 (fun w hw => C0.2.2.2.2.1.w hw) hin ty0 hty hnm C0.2.2.2.1 C0.2.2.2.2.1.k hH.1 (C0.2.2.2.2.1.dd S) hH.2 k he hc j hj (C0.2.2.2.2.1.w hlink) (fun _ h => by rw [href]; exact h) hfin hd rfl rfl hl hdg (fun H1 locs1 h1 _ h3 => kk H1 locs1 ⟨by rw [← hset]; exact h1, h3⟩)
theorem alG (C0 : Ct p s m args c g own cc nL) (hH : Hp g S s H locs) (k n : Nat) (he : (Wl g S)[k]? = some (kA g S k n)) (hn : n ≤ 1000) {z : Int} (h0 : 0 ≤ z) (h1 : z < n) (hdg : decode cc pc = .ok (.iaload, 1))
    (kk : W p l e R s m args below meth c H locs cells slots Q (F0 m (pc + 1) ls (.int (iI (S k z)) :: rest))) : W p l e R s m args below meth c H locs cells slots Q (F0 m pc ls (.int (iI z) :: .ref (g.1 k) :: rest)) :=
  va_iald C0.1 C0.2.1 C0.2.2.2.2.1.k hH.1 k 0 he rfl (iI_in h0 h1 (by omega)) hdg (by rw [show (((iI z).toNatClampNeg : Nat) : Int) = z from iI_cl h0 (by omega)]; exact kk)
theorem asG (C0 : Ct p s m args c g own cc nL) (hH : Hp g S s H locs) (k n : Nat) (he : (Wl g S)[k]? = some (kA g S k n)) (hn : n ≤ 1000) {z x : Int} (hset : (Wl g S).set k (g.1 k, .inl (g.2.2.1, n, .inl (fun j : Nat => iI (ud (S k) z x j)))) = Wl g S') (h0 : 0 ≤ z) (h1 : z < n) (hdg : decode cc pc = .ok (.iastore, 1))
    (kk : ∀ (H1 : Heap) (locs1 : List Loc), Hp g S' s H1 locs1 → W p l e R s m args below meth c H1 locs1 cells slots Q (F0 m (pc + 1) ls rest)) : W p l e R s m args below meth c H locs cells slots Q (F0 m pc ls (.int (iI x) :: .int (iI z) :: .ref (g.1 k) :: rest)) :=
  va_iast C0.1 C0.2.1 C0.2.2.2.2.1.k hH.1 (C0.2.2.2.2.1.dd S) hH.2 k 0 he rfl (iI_in h0 h1 (by omega)) hdg (fun H1 locs1 h2 _ h4 => kk H1 locs1 ⟨by rw [← hset, ← upd_ud (S k) h0 (by omega)]; exact h2, h4⟩)
/-! calls -/
theorem Hp.pre {av : List Value} {U : State} (C0 : Ct p s m args c g own cc nL) (hH : Hp g S s H locs) (hU : U.heap = H) (hW : s.WarmedH U.vm) : PreG g av S av.toArray U :=
  ⟨rfl, GG.moved hW C0.2.2.2.2.1, by rw [hU]; exact ZZ.moved hW.alike (C0.2.2.2.2.2.kept hH.2.2.1), by rw [hU]; exact hH.1⟩
theorem Hp.call {st₀ t T' : State} {L : List Loc} {H1 : Heap} (hH : Hp g S s H locs) (h0 : st₀.heap = H) (h1 : t.heap = H1) (hL : ∀ q ∈ L, oA g q.base) (hP : va_P g.2.1 vwCl (Wl g S') t.heap) (hF : va_F (oA g) st₀ t) : Hp g S' s H1 (locs ++ L) := by
  subst h0; subst h1
  refine ⟨hP, Nat.le_trans hH.2.1 hF.1, fun q hq hA => (hF.2 q (Nat.lt_of_lt_of_le hq hH.2.1) hA).trans (hH.2.2.1 q hq hA), fun q hq => ?_⟩
  rcases List.mem_append.mp hq with h | h
  · exact hH.2.2.2 q h
  · exact hL q h
variable {index n maxL fr lo : Nat} {y : MethodName} {bytes : ByteArray} {ret : Option FieldType} {As : List Value} {stk : List Value} {v : Option Value} {b : Nat}
/-- the words of a call -/
def kwV (own : String) (index : Nat) (y : MethodName) (bytes : ByteArray) (maxL : Nat) (ret : Option FieldType) : Prop := Cond.methodLink own index y ∈ GL ∧ Cond.instanceMethod y ∈ GL ∧ Cond.selects y.cls y y ∈ GL ∧ Cond.code y bytes maxL ret ∈ GL ∧ Cond.initialized y.cls ∈ GL
def kwS (own : String) (index : Nat) (y : MethodName) (bytes : ByteArray) (maxL : Nat) (ret : Option FieldType) : Prop := Cond.methodLink own index y ∈ GL ∧ Cond.static y ∈ GL ∧ Cond.code y bytes maxL ret ∈ GL ∧ Cond.initialized y.cls ∈ GL
/-- what a name must be -/
def kyn (y : MethodName) (n : Nat) : Prop := y.cls ≠ "java/lang/invoke/MethodHandle" ∧ y.cls ≠ "java/lang/invoke/VarHandle" ∧ (parseMethodDescriptor y.desc).map (fun d => d.parameters.length) = some n
theorem kyn_len {y : MethodName} {n : Nat} (h : kyn y n) : ∀ sig, parseMethodDescriptor y.desc = some sig → n = sig.parameters.length := fun sig h1 => by
  have h2 := h.2.2
  rw [h1] at h2
  exact (Option.some.inj h2).symm
theorem cbG {rm : Room} {mc ms : Nat} (G0 : GG g s) (hl : Cond.methodLink own index y ∈ GL) (hc : Cond.code y bytes maxL ret ∈ GL) (hi : Cond.initialized y.cls ∈ GL) (hy : kyn y n) (hrc : rm.cells = mc) (hrs : rm.slots = ms) (hR : rm.frames + 1 ≤ R.frames ∧ 8 + (maxL + 11) + rm.locals ≤ R.locals) :
    CallB R s args own index y bytes maxL ret [.code y bytes maxL ret] rm mc ms n :=
  ⟨hrc, hrs, hR.1, hR.2, fun w hw a' U hW => by
    rw [List.mem_singleton] at hw
    subst hw
    exact word_at hW (good_of_word (List.mem_filter.mp hc).2) (G0.w (args := #[]) hc), List.mem_singleton.mpr rfl, G0.w hc, G0.w hi, ⟨hy.1, hy.2.1⟩, kyn_len hy, G0.w hl⟩
theorem cvG (C0 : Ct p s m args c g own cc nL) (hH : Hp g S s H locs) (hM : MetG l g y bytes maxL ret fr lo (.ref b :: As) S v S') (hw : kwV own index y bytes maxL ret) (hy : kyn y n) (hR : fr + 1 ≤ R.frames ∧ 8 + (maxL + 11) + lo ≤ R.locals) (hcs : cells ≤ R.cells ∧ slots ≤ R.slots)
    (k : Nat) {ci N : Nat} {T : u_T} {fs : List Value} (he : (Wl g S)[k]? = some (b, .inr (ci, fs))) (hc : vwCl[ci]? = some (y.cls, T, N)) (hn : As.length = n) (hsz : ls.size = nL) (hst : stk = As.reverse ++ .ref b :: rest) (hrest : (rest.map fun v => v.category).sum ≤ 8) (hdg : decode cc pc = .ok (.invokevirtual index, 3))
    (kk : ∀ (H1 : Heap) (locs1 : List Loc), Hp g S' s H1 locs1 → W p l e R s m args below meth c H1 locs1 cells slots Q (F0 m (pc + 3) ls (v.toList ++ rest))) : W p l e R s m args below meth c H locs cells slots Q (F0 m pc ls stk) := by
  subst hst
  have hr := va_runV (R := R) (args := args) (e := e) (below := below) (meth := meth) (cells := cells) (slots := slots) (Ts := GL) (C := y.cls) (b := b) (As := As) (rest := rest) (H := H) (locs := locs) (g := F0 m pc ls (As.reverse ++ .ref b :: rest)) ⟨C0.1, C0.2.1, C0.2.2.1, C0.2.2.2.1, fun w hw => C0.2.2.2.2.1.w hw⟩ hM
    ⟨cbG C0.2.2.2.2.1 hw.1 hw.2.2.2.1 hw.2.2.2.2 hy rfl rfl hR, C0.2.2.2.2.1.w hw.2.1, C0.2.2.2.2.1.w hw.2.2.1⟩ ⟨PreG.blind _ _ _, va_recv C0.2.2.2.2.1.k hH.1 hc he, fun U hU hW => hH.pre C0 hU hW⟩ rfl hn hsz rfl (lv_room hrest) hdg hcs
  intro T0 hT X
  obtain ⟨v', st₀, t, T', L, h0, X', hL, e1, e2, ⟨hv, hP1, hF⟩, stp⟩ := hr T0 hT X
  cases hv
  obtain ⟨t2, a1, b1⟩ := kk t.heap (locs ++ L) (hH.call (T' := T') h0 rfl hL hP1 hF) T' e1 X'
  exact ⟨t2, stp t2 a1, b1⟩
theorem csG (C0 : Ct p s m args c g own cc nL) (hH : Hp g S s H locs) (hM : MetG l g y bytes maxL ret fr lo As S v S') (hw : kwS own index y bytes maxL ret) (hy : kyn y n) (hR : fr + 1 ≤ R.frames ∧ 8 + (maxL + 11) + lo ≤ R.locals) (hcs : cells ≤ R.cells ∧ slots ≤ R.slots)
    (hn : As.length = n) (hsz : ls.size = nL) (hst : stk = As.reverse ++ rest) (hrest : (rest.map fun v => v.category).sum ≤ 8) (hdg : decode cc pc = .ok (.invokestatic index, 3))
    (kk : ∀ (H1 : Heap) (locs1 : List Loc), Hp g S' s H1 locs1 → W p l e R s m args below meth c H1 locs1 cells slots Q (F0 m (pc + 3) ls (v.toList ++ rest))) : W p l e R s m args below meth c H locs cells slots Q (F0 m pc ls stk) := by
  subst hst
  have hr := va_runS (R := R) (args := args) (e := e) (below := below) (meth := meth) (cells := cells) (slots := slots) (Ts := GL) (As := As) (rest := rest) (H := H) (locs := locs) (g := F0 m pc ls (As.reverse ++ rest)) ⟨C0.1, C0.2.1, C0.2.2.1, C0.2.2.2.1, fun w hw => C0.2.2.2.2.1.w hw⟩ hM
    ⟨cbG C0.2.2.2.2.1 hw.1 hw.2.2.1 hw.2.2.2 hy rfl rfl hR, C0.2.2.2.2.1.w hw.2.1⟩ ⟨PreG.blind _ _ _, fun U hU hW => hH.pre C0 hU hW⟩ rfl hn hsz rfl (lv_room hrest) hdg hcs
  intro T0 hT X
  obtain ⟨v', st₀, t, T', L, h0, X', hL, e1, e2, ⟨hv, hP1, hF⟩, stp⟩ := hr T0 hT X
  cases hv
  obtain ⟨t2, a1, b1⟩ := kk t.heap (locs ++ L) (hH.call (T' := T') h0 rfl hL hP1 hF) T' e1 X'
  exact ⟨t2, stp t2 a1, b1⟩
/-! a callee that throws, not caught here -/
theorem cvX {E : String} (C0 : Ct p s m args c g own cc nL) (ht : ∀ x ∈ c.exceptionTable.toList, False) (hlk : meth.locks = false) (hH : Hp g S s H locs) (hM : ThrG l g y bytes maxL ret fr lo (.ref b :: As) S E S') (hw : kwV own index y bytes maxL ret) (hy : kyn y n) (hR : fr + 1 ≤ R.frames ∧ 8 + (maxL + 11) + lo ≤ R.locals) (hcs : 0 + 1 ≤ R.cells ∧ 0 + 6 ≤ R.slots)
    (k : Nat) {ci N : Nat} {T : u_T} {fs : List Value} (he : (Wl g S)[k]? = some (b, .inr (ci, fs))) (hc : vwCl[ci]? = some (y.cls, T, N)) (hn : As.length = n) (hsz : ls.size = nL) (hst : stk = As.reverse ++ .ref b :: rest) (hrest : (rest.map fun v => v.category).sum ≤ 8) (hdg : decode cc pc = .ok (.invokevirtual index, 3)) :
    W p l e R s m args below meth c H locs 0 0 (vx_MQ below (fun _ _ _ _ => False) (XG g S' E) args s 1 6 (oA g)) (F0 m pc ls stk) := by
  subst hst
  have hr := vx_runV (R := R) (args := args) (e := e) (below := below) (meth := meth) (cells := 0) (slots := 0) (Ts := GL) (C := y.cls) (b := b) (As := As) (rest := rest) (H := H) (locs := locs) (g := F0 m pc ls (As.reverse ++ .ref b :: rest)) ⟨C0.1, C0.2.1, C0.2.2.1, C0.2.2.2.1, fun w hw => C0.2.2.2.2.1.w hw⟩ hM
    ⟨cbG C0.2.2.2.2.1 hw.1 hw.2.2.2.1 hw.2.2.2.2 hy rfl rfl hR, C0.2.2.2.2.1.w hw.2.1, C0.2.2.2.2.1.w hw.2.2.1⟩ ⟨PreG.blind _ _ _, va_recv C0.2.2.2.2.1.k hH.1 hc he, fun U hU hW => hH.pre C0 hU hW⟩ rfl hn hsz rfl (lv_room hrest) hdg hcs
  intro T0 hT X
  rcases hr T0 hT X with ⟨v, st₀, t, T', L, h0, X', hL, e1, e2, hq, stp⟩ | ⟨q, st₀, t, T', L, E', ce, h0, X', hL, e1, e2, ⟨rfl, hP1, hF⟩, hce, hcv, hcl, stp⟩
  · exact hq.elim
  · have h5 := hH.call (T' := T') h0 rfl hL hP1 hF
    obtain ⟨t2, a1, b1⟩ := vx_out (pc := pc) (ls := ls) (rest := rest) (q := q) (E := E') (Qc := fun _ _ _ _ => False) (XC := XG g S' E') (mc := 1) (ms := 6) (free := oA g) (fun x hx => (ht x hx).elim) hlk hce hcv hcl (fun t' ht' ha' => ⟨rfl, by rw [ht']; exact h5.1, h5.2.F ht'⟩) h5.2.2.2 (Nat.le_refl 1) (Nat.le_refl 6) T' e1 X'
    exact ⟨t2, stp.trans a1, b1⟩
theorem csX {E : String} (C0 : Ct p s m args c g own cc nL) (ht : ∀ x ∈ c.exceptionTable.toList, False) (hlk : meth.locks = false) (hH : Hp g S s H locs) (hM : ThrG l g y bytes maxL ret fr lo As S E S') (hw : kwS own index y bytes maxL ret) (hy : kyn y n) (hR : fr + 1 ≤ R.frames ∧ 8 + (maxL + 11) + lo ≤ R.locals) (hcs : 0 + 1 ≤ R.cells ∧ 0 + 6 ≤ R.slots)
    (hn : As.length = n) (hsz : ls.size = nL) (hst : stk = As.reverse ++ rest) (hrest : (rest.map fun v => v.category).sum ≤ 8) (hdg : decode cc pc = .ok (.invokestatic index, 3)) :
    W p l e R s m args below meth c H locs 0 0 (vx_MQ below (fun _ _ _ _ => False) (XG g S' E) args s 1 6 (oA g)) (F0 m pc ls stk) := by
  subst hst
  have hr := vx_runS (R := R) (args := args) (e := e) (below := below) (meth := meth) (cells := 0) (slots := 0) (Ts := GL) (As := As) (rest := rest) (H := H) (locs := locs) (g := F0 m pc ls (As.reverse ++ rest)) ⟨C0.1, C0.2.1, C0.2.2.1, C0.2.2.2.1, fun w hw => C0.2.2.2.2.1.w hw⟩ hM
    ⟨cbG C0.2.2.2.2.1 hw.1 hw.2.2.1 hw.2.2.2 hy rfl rfl hR, C0.2.2.2.2.1.w hw.2.1⟩ ⟨PreG.blind _ _ _, fun U hU hW => hH.pre C0 hU hW⟩ rfl hn hsz rfl (lv_room hrest) hdg hcs
  intro T0 hT X
  rcases hr T0 hT X with ⟨v, st₀, t, T', L, h0, X', hL, e1, e2, hq, stp⟩ | ⟨q, st₀, t, T', L, E', ce, h0, X', hL, e1, e2, ⟨rfl, hP1, hF⟩, hce, hcv, hcl, stp⟩
  · exact hq.elim
  · have h5 := hH.call (T' := T') h0 rfl hL hP1 hF
    obtain ⟨t2, a1, b1⟩ := vx_out (pc := pc) (ls := ls) (rest := rest) (q := q) (E := E') (Qc := fun _ _ _ _ => False) (XC := XG g S' E') (mc := 1) (ms := 6) (free := oA g) (fun x hx => (ht x hx).elim) hlk hce hcv hcl (fun t' ht' ha' => ⟨rfl, by rw [ht']; exact h5.1, h5.2.F ht'⟩) h5.2.2.2 (Nat.le_refl 1) (Nat.le_refl 6) T' e1 X'
    exact ⟨t2, stp.trans a1, b1⟩
/-! 'throw new E("text")' -/
theorem thG {cls text : String} {names : List String} {ik is ic : Nat} (hl : l.stackTraces = false) (C0 : Ct p s m args c g own cc nL) (ht : ∀ x ∈ c.exceptionTable.toList, False) (hlk : meth.locks = false) (hH : Hp g S s H locs) (ho : own = "SkyLoom") (hcls : Bundle.fit cls = true) (hnames : ∀ n ∈ names, Bundle.fit n = true)
    (hk : Cond.classLink own ik cls ∈ GL) (hini : Cond.initialized cls ∈ GL) (hstr : Cond.stringRef "SkyLoom" is text ∈ lw_tbl) (hat : ∀ w ∈ vx_atS own ic cls names, w.before args s = true)
    (hgood : ∀ w ∈ Cond.classLink own ik cls :: Cond.initialized cls :: vx_atS own ic cls names, vx_ot w = true) (hsz : ls.size = nL)
    (d0 : decode cc pc = .ok (.new ik, 3)) (d3 : decode cc (pc + 3) = .ok (.dup, 1)) (d4 : decode cc (pc + 4) = .ok (.ldc is, 2)) (d6 : decode cc (pc + 6) = .ok (.invokespecial ic, 3)) (d9 : decode cc (pc + 9) = .ok (.athrow, 1))
    (hRf : names.length + 3 < R.frames) (hRl : (rest.map fun v => v.category).sum + (13 * (names.length + 1) + 43) ≤ R.locals) (hRc : 0 + 1 ≤ R.cells) (hRs : 0 + 6 ≤ R.slots) :
    W p l e R s m args below meth c H locs 0 0 (vx_MQ below (fun _ _ _ _ => False) (XG g S cls) args s 1 6 (oA g)) (F0 m pc ls rest) := by
  subst ho
  exact vx_throwS (A := oA g) (sa := g.2.2.2.2 is) C0.1 C0.2.1 hl C0.2.2.2.1 hcls hnames (C0.2.2.2.2.1.w hk) (C0.2.2.2.2.1.w hini) (C0.2.2.2.2.1.2.2.2.2.1 is text hstr) hat hgood C0.2.2.2.2.2.1 C0.2.2.2.2.2.2 hH.2 (hsz.trans C0.2.2.1.symm) d0 d3 d4 d6 d9 (fun x hx => (ht x hx).elim) hRf hRl hRc hRs hlk
    (fun t _ h2 h3 => ⟨rfl, hH.1.kept (fun k q hq => h3 q.1 (hH.1 k q hq).lt), Nat.le_trans hH.2.1 h2, fun q hq hA => (h3 q (Nat.lt_of_lt_of_le hq hH.2.1)).trans (hH.2.2.1 q hq hA)⟩) hH.2.2.2 (Nat.le_refl 1) (Nat.le_refl 6)
end RW
theorem lpN {P : Nat → Prop} (h : ∀ k, (∀ j, j < k → P j) → P k) : ∀ k, P k := fun k => Nat.strongRecOn k h
end
section
theorem glAll : ∀ (ws : List Cond) (is : List Nat), ws.map some = is.map (fun i => lw_tbl[i]?) → ws.all goodWord = true → ∀ w ∈ ws, w ∈ GL := by
  intro ws is h hg w hw
  have h1 : some w ∈ ws.map some := List.mem_map.mpr ⟨w, hw, rfl⟩
  rw [h] at h1
  obtain ⟨i, -, hi⟩ := List.mem_map.mp h1
  exact gm i hi (List.all_eq_true.mp hg w hw)
theorem inG1 : ∀ w ∈ u_ws RX1 TX1 3, w ∈ GL := glAll _ [98, 100, 102] (by decide +kernel) (by decide +kernel)
theorem inG2 : ∀ w ∈ u_ws RX2 TX2 3, w ∈ GL := glAll _ [53, 55, 57] (by decide +kernel) (by decide +kernel)
theorem inG3 : ∀ w ∈ u_ws RX3 TX3 7, w ∈ GL := glAll _ [152, 154, 156, 158, 160, 162, 164] (by decide +kernel) (by decide +kernel)
theorem inG4 : ∀ w ∈ u_ws RX4 TX4 5, w ∈ GL := glAll _ [121, 123, 125, 127, 129] (by decide +kernel) (by decide +kernel)
theorem inG5 : ∀ w ∈ u_ws RX5 TX5 4, w ∈ GL := glAll _ [75, 77, 79, 81] (by decide +kernel) (by decide +kernel)
theorem inG6 : ∀ w ∈ u_ws RX6 TX6 5, w ∈ GL := glAll _ [172, 174, 176, 178, 180] (by decide +kernel) (by decide +kernel)
section ST
variable {p : Program} {l : Launch} {e : Env} {R : Room} {s : State} {m : MethodId} {args : Array Value} {below : List Frame} {meth : Method} {c : Code} {H : Heap} {locs : List Loc} {cells slots : Nat} {Q : State → Prop} {g : gT} {cc : ByteArray} {nL : Nat} {S : gSt} {pc : Nat} {ls : Array Slot} {rest : List Value}
theorem gf_X6_12 (C0 : Ct p s m args c g RX6 cc nL) (hH : Hp g S s H locs) (hdg : decode cc pc = .ok (.getfield 12, 3)) (kk : W p l e R s m args below meth c H locs cells slots Q (F0 m (pc + 3) ls (.ref (g.1 1) :: rest))) : W p l e R s m args below meth c H locs cells slots Q (F0 m pc ls (.ref (g.1 0) :: rest)) :=
  gfG (ref := RX6) (C := RX6) (T := TX6) (N := 5) (ci := 5) C0 hH 0 rfl rfl inG6 0 (by decide) (gm 167 (by decide +kernel) rfl) rfl rfl hdg kk
theorem gf_X6_19 (C0 : Ct p s m args c g RX6 cc nL) (hH : Hp g S s H locs) (hdg : decode cc pc = .ok (.getfield 19, 3)) (kk : W p l e R s m args below meth c H locs cells slots Q (F0 m (pc + 3) ls (.ref (g.1 4) :: rest))) : W p l e R s m args below meth c H locs cells slots Q (F0 m pc ls (.ref (g.1 0) :: rest)) :=
  gfG (ref := RX6) (C := RX6) (T := TX6) (N := 5) (ci := 5) C0 hH 0 rfl rfl inG6 1 (by decide) (gm 168 (by decide +kernel) rfl) rfl rfl hdg kk
theorem gf_X6_26 (C0 : Ct p s m args c g RX6 cc nL) (hH : Hp g S s H locs) (hdg : decode cc pc = .ok (.getfield 26, 3)) (kk : W p l e R s m args below meth c H locs cells slots Q (F0 m (pc + 3) ls (.ref (g.1 8) :: rest))) : W p l e R s m args below meth c H locs cells slots Q (F0 m pc ls (.ref (g.1 0) :: rest)) :=
  gfG (ref := RX6) (C := RX6) (T := TX6) (N := 5) (ci := 5) C0 hH 0 rfl rfl inG6 2 (by decide) (gm 169 (by decide +kernel) rfl) rfl rfl hdg kk
theorem gf_X6_33 (C0 : Ct p s m args c g RX6 cc nL) (hH : Hp g S s H locs) (hdg : decode cc pc = .ok (.getfield 33, 3)) (kk : W p l e R s m args below meth c H locs cells slots Q (F0 m (pc + 3) ls (.ref (g.1 12) :: rest))) : W p l e R s m args below meth c H locs cells slots Q (F0 m pc ls (.ref (g.1 0) :: rest)) :=
  gfG (ref := RX6) (C := RX6) (T := TX6) (N := 5) (ci := 5) C0 hH 0 rfl rfl inG6 3 (by decide) (gm 170 (by decide +kernel) rfl) rfl rfl hdg kk
theorem gf_X6_40 (C0 : Ct p s m args c g RX6 cc nL) (hH : Hp g S s H locs) (hdg : decode cc pc = .ok (.getfield 40, 3)) (kk : W p l e R s m args below meth c H locs cells slots Q (F0 m (pc + 3) ls (.ref (g.1 17) :: rest))) : W p l e R s m args below meth c H locs cells slots Q (F0 m pc ls (.ref (g.1 0) :: rest)) :=
  gfG (ref := RX6) (C := RX6) (T := TX6) (N := 5) (ci := 5) C0 hH 0 rfl rfl inG6 4 (by decide) (gm 171 (by decide +kernel) rfl) rfl rfl hdg kk
theorem gf_X6_48 (C0 : Ct p s m args c g RX6 cc nL) (hH : Hp g S s H locs) (hdg : decode cc pc = .ok (.getfield 48, 3)) (kk : W p l e R s m args below meth c H locs cells slots Q (F0 m (pc + 3) ls (.int (iI (S 1 0)) :: rest))) : W p l e R s m args below meth c H locs cells slots Q (F0 m pc ls (.ref (g.1 1) :: rest)) :=
  gnG (ref := RX2) (C := RX2) (host := "SkyLoom") (T := TX2) (N := 3) (ci := 1) C0 hH 1 rfl rfl inG2 0 (by decide) (nmm 48 (by decide +kernel) rfl) rfl rfl hdg kk
theorem gf_X6_67 (C0 : Ct p s m args c g RX6 cc nL) (hH : Hp g S s H locs) (hdg : decode cc pc = .ok (.getfield 67, 3)) (kk : W p l e R s m args below meth c H locs cells slots Q (F0 m (pc + 3) ls (.ref (g.1 2) :: rest))) : W p l e R s m args below meth c H locs cells slots Q (F0 m pc ls (.ref (g.1 1) :: rest)) :=
  gnG (ref := RX2) (C := RX2) (host := "SkyLoom") (T := TX2) (N := 3) (ci := 1) C0 hH 1 rfl rfl inG2 1 (by decide) (nmm 50 (by decide +kernel) rfl) rfl rfl hdg kk
theorem gf_X6_71 (C0 : Ct p s m args c g RX6 cc nL) (hH : Hp g S s H locs) (hdg : decode cc pc = .ok (.getfield 71, 3)) (kk : W p l e R s m args below meth c H locs cells slots Q (F0 m (pc + 3) ls (.ref (g.1 3) :: rest))) : W p l e R s m args below meth c H locs cells slots Q (F0 m pc ls (.ref (g.1 1) :: rest)) :=
  gnG (ref := RX2) (C := RX2) (host := "SkyLoom") (T := TX2) (N := 3) (ci := 1) C0 hH 1 rfl rfl inG2 2 (by decide) (nmm 52 (by decide +kernel) rfl) rfl rfl hdg kk
theorem gf_X6_86 (C0 : Ct p s m args c g RX6 cc nL) (hH : Hp g S s H locs) (hdg : decode cc pc = .ok (.getfield 86, 3)) (kk : W p l e R s m args below meth c H locs cells slots Q (F0 m (pc + 3) ls (.int (iI (S 4 0)) :: rest))) : W p l e R s m args below meth c H locs cells slots Q (F0 m pc ls (.ref (g.1 4) :: rest)) :=
  gnG (ref := RX5) (C := RX5) (host := "SkyLoom") (T := TX5) (N := 4) (ci := 4) C0 hH 4 rfl rfl inG5 0 (by decide) (nmm 68 (by decide +kernel) rfl) rfl rfl hdg kk
theorem gf_X6_102 (C0 : Ct p s m args c g RX6 cc nL) (hH : Hp g S s H locs) (hdg : decode cc pc = .ok (.getfield 102, 3)) (kk : W p l e R s m args below meth c H locs cells slots Q (F0 m (pc + 3) ls (.ref (g.1 5) :: rest))) : W p l e R s m args below meth c H locs cells slots Q (F0 m pc ls (.ref (g.1 4) :: rest)) :=
  gnG (ref := RX5) (C := RX5) (host := "SkyLoom") (T := TX5) (N := 4) (ci := 4) C0 hH 4 rfl rfl inG5 1 (by decide) (nmm 70 (by decide +kernel) rfl) rfl rfl hdg kk
theorem gf_X6_131 (C0 : Ct p s m args c g RX6 cc nL) (hH : Hp g S s H locs) (hdg : decode cc pc = .ok (.getfield 131, 3)) (kk : W p l e R s m args below meth c H locs cells slots Q (F0 m (pc + 3) ls (.ref (g.1 6) :: rest))) : W p l e R s m args below meth c H locs cells slots Q (F0 m pc ls (.ref (g.1 4) :: rest)) :=
  gnG (ref := RX5) (C := RX5) (host := "SkyLoom") (T := TX5) (N := 4) (ci := 4) C0 hH 4 rfl rfl inG5 2 (by decide) (nmm 72 (by decide +kernel) rfl) rfl rfl hdg kk
theorem gf_X6_134 (C0 : Ct p s m args c g RX6 cc nL) (hH : Hp g S s H locs) (hdg : decode cc pc = .ok (.getfield 134, 3)) (kk : W p l e R s m args below meth c H locs cells slots Q (F0 m (pc + 3) ls (.ref (g.1 7) :: rest))) : W p l e R s m args below meth c H locs cells slots Q (F0 m pc ls (.ref (g.1 4) :: rest)) :=
  gnG (ref := RX5) (C := RX5) (host := "SkyLoom") (T := TX5) (N := 4) (ci := 4) C0 hH 4 rfl rfl inG5 3 (by decide) (nmm 74 (by decide +kernel) rfl) rfl rfl hdg kk
theorem gf_X6_140 (C0 : Ct p s m args c g RX6 cc nL) (hH : Hp g S s H locs) (hdg : decode cc pc = .ok (.getfield 140, 3)) (kk : W p l e R s m args below meth c H locs cells slots Q (F0 m (pc + 3) ls (.int (iI (S 17 1)) :: rest))) : W p l e R s m args below meth c H locs cells slots Q (F0 m pc ls (.ref (g.1 17) :: rest)) :=
  gnG (ref := RX3) (C := RX3) (host := "SkyLoom") (T := TX3) (N := 7) (ci := 2) C0 hH 17 rfl rfl inG3 1 (by decide) (nmm 141 (by decide +kernel) rfl) rfl rfl hdg kk
theorem gf_X6_148 (C0 : Ct p s m args c g RX6 cc nL) (hH : Hp g S s H locs) (hdg : decode cc pc = .ok (.getfield 148, 3)) (kk : W p l e R s m args below meth c H locs cells slots Q (F0 m (pc + 3) ls (.int (iI (S 17 0)) :: rest))) : W p l e R s m args below meth c H locs cells slots Q (F0 m pc ls (.ref (g.1 17) :: rest)) :=
  gnG (ref := RX3) (C := RX3) (host := "SkyLoom") (T := TX3) (N := 7) (ci := 2) C0 hH 17 rfl rfl inG3 0 (by decide) (nmm 139 (by decide +kernel) rfl) rfl rfl hdg kk
theorem gf_X6_170 (C0 : Ct p s m args c g RX6 cc nL) (hH : Hp g S s H locs) (hdg : decode cc pc = .ok (.getfield 170, 3)) (kk : W p l e R s m args below meth c H locs cells slots Q (F0 m (pc + 3) ls (.ref (g.1 10) :: rest))) : W p l e R s m args below meth c H locs cells slots Q (F0 m pc ls (.ref (g.1 8) :: rest)) :=
  gnG (ref := RX1) (C := RX1) (host := "SkyLoom") (T := TX1) (N := 3) (ci := 0) C0 hH 8 rfl rfl inG1 1 (by decide) (nmm 95 (by decide +kernel) rfl) rfl rfl hdg kk
theorem gf_X6_173 (C0 : Ct p s m args c g RX6 cc nL) (hH : Hp g S s H locs) (hdg : decode cc pc = .ok (.getfield 173, 3)) (kk : W p l e R s m args below meth c H locs cells slots Q (F0 m (pc + 3) ls (.ref (g.1 11) :: rest))) : W p l e R s m args below meth c H locs cells slots Q (F0 m pc ls (.ref (g.1 8) :: rest)) :=
  gnG (ref := RX1) (C := RX1) (host := "SkyLoom") (T := TX1) (N := 3) (ci := 0) C0 hH 8 rfl rfl inG1 2 (by decide) (nmm 97 (by decide +kernel) rfl) rfl rfl hdg kk
theorem gf_X6_205 (C0 : Ct p s m args c g RX6 cc nL) (hH : Hp g S s H locs) (hdg : decode cc pc = .ok (.getfield 205, 3)) (kk : W p l e R s m args below meth c H locs cells slots Q (F0 m (pc + 3) ls (.int (iI (S 12 0)) :: rest))) : W p l e R s m args below meth c H locs cells slots Q (F0 m pc ls (.ref (g.1 12) :: rest)) :=
  gnG (ref := RX4) (C := RX4) (host := "SkyLoom") (T := TX4) (N := 5) (ci := 3) C0 hH 12 rfl rfl inG4 0 (by decide) (nmm 112 (by decide +kernel) rfl) rfl rfl hdg kk
theorem gf_X6_235 (C0 : Ct p s m args c g RX6 cc nL) (hH : Hp g S s H locs) (hdg : decode cc pc = .ok (.getfield 235, 3)) (kk : W p l e R s m args below meth c H locs cells slots Q (F0 m (pc + 3) ls (.ref (g.1 19) :: rest))) : W p l e R s m args below meth c H locs cells slots Q (F0 m pc ls (.ref (g.1 17) :: rest)) :=
  gnG (ref := RX3) (C := RX3) (host := "SkyLoom") (T := TX3) (N := 7) (ci := 2) C0 hH 17 rfl rfl inG3 3 (by decide) (nmm 145 (by decide +kernel) rfl) rfl rfl hdg kk
theorem gf_X6_238 (C0 : Ct p s m args c g RX6 cc nL) (hH : Hp g S s H locs) (hdg : decode cc pc = .ok (.getfield 238, 3)) (kk : W p l e R s m args below meth c H locs cells slots Q (F0 m (pc + 3) ls (.ref (g.1 20) :: rest))) : W p l e R s m args below meth c H locs cells slots Q (F0 m pc ls (.ref (g.1 17) :: rest)) :=
  gnG (ref := RX3) (C := RX3) (host := "SkyLoom") (T := TX3) (N := 7) (ci := 2) C0 hH 17 rfl rfl inG3 4 (by decide) (nmm 147 (by decide +kernel) rfl) rfl rfl hdg kk
theorem gf_X6_241 (C0 : Ct p s m args c g RX6 cc nL) (hH : Hp g S s H locs) (hdg : decode cc pc = .ok (.getfield 241, 3)) (kk : W p l e R s m args below meth c H locs cells slots Q (F0 m (pc + 3) ls (.ref (g.1 21) :: rest))) : W p l e R s m args below meth c H locs cells slots Q (F0 m pc ls (.ref (g.1 17) :: rest)) :=
  gnG (ref := RX3) (C := RX3) (host := "SkyLoom") (T := TX3) (N := 7) (ci := 2) C0 hH 17 rfl rfl inG3 5 (by decide) (nmm 149 (by decide +kernel) rfl) rfl rfl hdg kk
theorem gf_X6_244 (C0 : Ct p s m args c g RX6 cc nL) (hH : Hp g S s H locs) (hdg : decode cc pc = .ok (.getfield 244, 3)) (kk : W p l e R s m args below meth c H locs cells slots Q (F0 m (pc + 3) ls (.ref (g.1 22) :: rest))) : W p l e R s m args below meth c H locs cells slots Q (F0 m pc ls (.ref (g.1 17) :: rest)) :=
  gnG (ref := RX3) (C := RX3) (host := "SkyLoom") (T := TX3) (N := 7) (ci := 2) C0 hH 17 rfl rfl inG3 6 (by decide) (nmm 151 (by decide +kernel) rfl) rfl rfl hdg kk
theorem gf_X6_247 (C0 : Ct p s m args c g RX6 cc nL) (hH : Hp g S s H locs) (hdg : decode cc pc = .ok (.getfield 247, 3)) (kk : W p l e R s m args below meth c H locs cells slots Q (F0 m (pc + 3) ls (.ref (g.1 18) :: rest))) : W p l e R s m args below meth c H locs cells slots Q (F0 m pc ls (.ref (g.1 17) :: rest)) :=
  gnG (ref := RX3) (C := RX3) (host := "SkyLoom") (T := TX3) (N := 7) (ci := 2) C0 hH 17 rfl rfl inG3 2 (by decide) (nmm 143 (by decide +kernel) rfl) rfl rfl hdg kk
theorem gf_X6_259 (C0 : Ct p s m args c g RX6 cc nL) (hH : Hp g S s H locs) (hdg : decode cc pc = .ok (.getfield 259, 3)) (kk : W p l e R s m args below meth c H locs cells slots Q (F0 m (pc + 3) ls (.ref (g.1 13) :: rest))) : W p l e R s m args below meth c H locs cells slots Q (F0 m pc ls (.ref (g.1 12) :: rest)) :=
  gnG (ref := RX4) (C := RX4) (host := "SkyLoom") (T := TX4) (N := 5) (ci := 3) C0 hH 12 rfl rfl inG4 1 (by decide) (nmm 114 (by decide +kernel) rfl) rfl rfl hdg kk
theorem gf_X6_262 (C0 : Ct p s m args c g RX6 cc nL) (hH : Hp g S s H locs) (hdg : decode cc pc = .ok (.getfield 262, 3)) (kk : W p l e R s m args below meth c H locs cells slots Q (F0 m (pc + 3) ls (.ref (g.1 14) :: rest))) : W p l e R s m args below meth c H locs cells slots Q (F0 m pc ls (.ref (g.1 12) :: rest)) :=
  gnG (ref := RX4) (C := RX4) (host := "SkyLoom") (T := TX4) (N := 5) (ci := 3) C0 hH 12 rfl rfl inG4 2 (by decide) (nmm 116 (by decide +kernel) rfl) rfl rfl hdg kk
theorem gf_X6_265 (C0 : Ct p s m args c g RX6 cc nL) (hH : Hp g S s H locs) (hdg : decode cc pc = .ok (.getfield 265, 3)) (kk : W p l e R s m args below meth c H locs cells slots Q (F0 m (pc + 3) ls (.ref (g.1 15) :: rest))) : W p l e R s m args below meth c H locs cells slots Q (F0 m pc ls (.ref (g.1 12) :: rest)) :=
  gnG (ref := RX4) (C := RX4) (host := "SkyLoom") (T := TX4) (N := 5) (ci := 3) C0 hH 12 rfl rfl inG4 3 (by decide) (nmm 118 (by decide +kernel) rfl) rfl rfl hdg kk
theorem gf_X6_268 (C0 : Ct p s m args c g RX6 cc nL) (hH : Hp g S s H locs) (hdg : decode cc pc = .ok (.getfield 268, 3)) (kk : W p l e R s m args below meth c H locs cells slots Q (F0 m (pc + 3) ls (.ref (g.1 16) :: rest))) : W p l e R s m args below meth c H locs cells slots Q (F0 m pc ls (.ref (g.1 12) :: rest)) :=
  gnG (ref := RX4) (C := RX4) (host := "SkyLoom") (T := TX4) (N := 5) (ci := 3) C0 hH 12 rfl rfl inG4 4 (by decide) (nmm 120 (by decide +kernel) rfl) rfl rfl hdg kk
theorem gf_X1_9 (C0 : Ct p s m args c g RX1 cc nL) (hH : Hp g S s H locs) (hdg : decode cc pc = .ok (.getfield 9, 3)) (kk : W p l e R s m args below meth c H locs cells slots Q (F0 m (pc + 3) ls (.ref (g.1 9) :: rest))) : W p l e R s m args below meth c H locs cells slots Q (F0 m pc ls (.ref (g.1 8) :: rest)) :=
  gfG (ref := RX1) (C := RX1) (T := TX1) (N := 3) (ci := 0) C0 hH 8 rfl rfl inG1 0 (by decide) (gm 93 (by decide +kernel) rfl) rfl rfl hdg kk
theorem gf_X1_15 (C0 : Ct p s m args c g RX1 cc nL) (hH : Hp g S s H locs) (hdg : decode cc pc = .ok (.getfield 15, 3)) (kk : W p l e R s m args below meth c H locs cells slots Q (F0 m (pc + 3) ls (.ref (g.1 10) :: rest))) : W p l e R s m args below meth c H locs cells slots Q (F0 m pc ls (.ref (g.1 8) :: rest)) :=
  gfG (ref := RX1) (C := RX1) (T := TX1) (N := 3) (ci := 0) C0 hH 8 rfl rfl inG1 1 (by decide) (gm 94 (by decide +kernel) rfl) rfl rfl hdg kk
theorem gf_X1_18 (C0 : Ct p s m args c g RX1 cc nL) (hH : Hp g S s H locs) (hdg : decode cc pc = .ok (.getfield 18, 3)) (kk : W p l e R s m args below meth c H locs cells slots Q (F0 m (pc + 3) ls (.ref (g.1 11) :: rest))) : W p l e R s m args below meth c H locs cells slots Q (F0 m pc ls (.ref (g.1 8) :: rest)) :=
  gfG (ref := RX1) (C := RX1) (T := TX1) (N := 3) (ci := 0) C0 hH 8 rfl rfl inG1 2 (by decide) (gm 96 (by decide +kernel) rfl) rfl rfl hdg kk
theorem gf_X2_9 (C0 : Ct p s m args c g RX2 cc nL) (hH : Hp g S s H locs) (hdg : decode cc pc = .ok (.getfield 9, 3)) (kk : W p l e R s m args below meth c H locs cells slots Q (F0 m (pc + 3) ls (.ref (g.1 2) :: rest))) : W p l e R s m args below meth c H locs cells slots Q (F0 m pc ls (.ref (g.1 1) :: rest)) :=
  gfG (ref := RX2) (C := RX2) (T := TX2) (N := 3) (ci := 1) C0 hH 1 rfl rfl inG2 1 (by decide) (gm 49 (by decide +kernel) rfl) rfl rfl hdg kk
theorem gf_X2_15 (C0 : Ct p s m args c g RX2 cc nL) (hH : Hp g S s H locs) (hdg : decode cc pc = .ok (.getfield 15, 3)) (kk : W p l e R s m args below meth c H locs cells slots Q (F0 m (pc + 3) ls (.ref (g.1 3) :: rest))) : W p l e R s m args below meth c H locs cells slots Q (F0 m pc ls (.ref (g.1 1) :: rest)) :=
  gfG (ref := RX2) (C := RX2) (T := TX2) (N := 3) (ci := 1) C0 hH 1 rfl rfl inG2 2 (by decide) (gm 51 (by decide +kernel) rfl) rfl rfl hdg kk
theorem gf_X2_18 (C0 : Ct p s m args c g RX2 cc nL) (hH : Hp g S s H locs) (hdg : decode cc pc = .ok (.getfield 18, 3)) (kk : W p l e R s m args below meth c H locs cells slots Q (F0 m (pc + 3) ls (.int (iI (S 1 0)) :: rest))) : W p l e R s m args below meth c H locs cells slots Q (F0 m pc ls (.ref (g.1 1) :: rest)) :=
  gfG (ref := RX2) (C := RX2) (T := TX2) (N := 3) (ci := 1) C0 hH 1 rfl rfl inG2 0 (by decide) (gm 47 (by decide +kernel) rfl) rfl rfl hdg kk
theorem pf_X2_18 {z : Int} (C0 : Ct p s m args c g RX2 cc nL) (hH : Hp g S s H locs) (hdg : decode cc pc = .ok (.putfield 18, 3)) (kk : ∀ (H1 : Heap) (locs1 : List Loc), Hp g (st S 1 0 z) s H1 locs1 → W p l e R s m args below meth c H1 locs1 cells slots Q (F0 m (pc + 3) ls (rest))) : W p l e R s m args below meth c H locs cells slots Q (F0 m pc ls (.int (iI z) :: .ref (g.1 1) :: rest)) :=
  pfG (ref := RX2) (C := RX2) (T := TX2) (N := 3) (ci := 1) C0 hH 1 rfl rfl inG2 tyX2 tyX2_ok nmX2 0 (by decide) (gm 47 (by decide +kernel) rfl) rfl rfl (by decide +kernel) (Nat.le_of_ble_eq_true rfl) rfl hdg kk
theorem gf_X3_9 (C0 : Ct p s m args c g RX3 cc nL) (hH : Hp g S s H locs) (hdg : decode cc pc = .ok (.getfield 9, 3)) (kk : W p l e R s m args below meth c H locs cells slots Q (F0 m (pc + 3) ls (.ref (g.1 18) :: rest))) : W p l e R s m args below meth c H locs cells slots Q (F0 m pc ls (.ref (g.1 17) :: rest)) :=
  gfG (ref := RX3) (C := RX3) (T := TX3) (N := 7) (ci := 2) C0 hH 17 rfl rfl inG3 2 (by decide) (gm 142 (by decide +kernel) rfl) rfl rfl hdg kk
theorem gf_X3_15 (C0 : Ct p s m args c g RX3 cc nL) (hH : Hp g S s H locs) (hdg : decode cc pc = .ok (.getfield 15, 3)) (kk : W p l e R s m args below meth c H locs cells slots Q (F0 m (pc + 3) ls (.ref (g.1 19) :: rest))) : W p l e R s m args below meth c H locs cells slots Q (F0 m pc ls (.ref (g.1 17) :: rest)) :=
  gfG (ref := RX3) (C := RX3) (T := TX3) (N := 7) (ci := 2) C0 hH 17 rfl rfl inG3 3 (by decide) (gm 144 (by decide +kernel) rfl) rfl rfl hdg kk
theorem gf_X3_18 (C0 : Ct p s m args c g RX3 cc nL) (hH : Hp g S s H locs) (hdg : decode cc pc = .ok (.getfield 18, 3)) (kk : W p l e R s m args below meth c H locs cells slots Q (F0 m (pc + 3) ls (.ref (g.1 20) :: rest))) : W p l e R s m args below meth c H locs cells slots Q (F0 m pc ls (.ref (g.1 17) :: rest)) :=
  gfG (ref := RX3) (C := RX3) (T := TX3) (N := 7) (ci := 2) C0 hH 17 rfl rfl inG3 4 (by decide) (gm 146 (by decide +kernel) rfl) rfl rfl hdg kk
theorem gf_X3_21 (C0 : Ct p s m args c g RX3 cc nL) (hH : Hp g S s H locs) (hdg : decode cc pc = .ok (.getfield 21, 3)) (kk : W p l e R s m args below meth c H locs cells slots Q (F0 m (pc + 3) ls (.ref (g.1 21) :: rest))) : W p l e R s m args below meth c H locs cells slots Q (F0 m pc ls (.ref (g.1 17) :: rest)) :=
  gfG (ref := RX3) (C := RX3) (T := TX3) (N := 7) (ci := 2) C0 hH 17 rfl rfl inG3 5 (by decide) (gm 148 (by decide +kernel) rfl) rfl rfl hdg kk
theorem gf_X3_24 (C0 : Ct p s m args c g RX3 cc nL) (hH : Hp g S s H locs) (hdg : decode cc pc = .ok (.getfield 24, 3)) (kk : W p l e R s m args below meth c H locs cells slots Q (F0 m (pc + 3) ls (.ref (g.1 22) :: rest))) : W p l e R s m args below meth c H locs cells slots Q (F0 m pc ls (.ref (g.1 17) :: rest)) :=
  gfG (ref := RX3) (C := RX3) (T := TX3) (N := 7) (ci := 2) C0 hH 17 rfl rfl inG3 6 (by decide) (gm 150 (by decide +kernel) rfl) rfl rfl hdg kk
theorem gf_X3_27 (C0 : Ct p s m args c g RX3 cc nL) (hH : Hp g S s H locs) (hdg : decode cc pc = .ok (.getfield 27, 3)) (kk : W p l e R s m args below meth c H locs cells slots Q (F0 m (pc + 3) ls (.int (iI (S 17 0)) :: rest))) : W p l e R s m args below meth c H locs cells slots Q (F0 m pc ls (.ref (g.1 17) :: rest)) :=
  gfG (ref := RX3) (C := RX3) (T := TX3) (N := 7) (ci := 2) C0 hH 17 rfl rfl inG3 0 (by decide) (gm 138 (by decide +kernel) rfl) rfl rfl hdg kk
theorem pf_X3_27 {z : Int} (C0 : Ct p s m args c g RX3 cc nL) (hH : Hp g S s H locs) (hdg : decode cc pc = .ok (.putfield 27, 3)) (kk : ∀ (H1 : Heap) (locs1 : List Loc), Hp g (st S 17 0 z) s H1 locs1 → W p l e R s m args below meth c H1 locs1 cells slots Q (F0 m (pc + 3) ls (rest))) : W p l e R s m args below meth c H locs cells slots Q (F0 m pc ls (.int (iI z) :: .ref (g.1 17) :: rest)) :=
  pfG (ref := RX3) (C := RX3) (T := TX3) (N := 7) (ci := 2) C0 hH 17 rfl rfl inG3 tyX3 tyX3_ok nmX3 0 (by decide) (gm 138 (by decide +kernel) rfl) rfl rfl (by decide +kernel) (Nat.le_of_ble_eq_true rfl) rfl hdg kk
theorem gf_X3_31 (C0 : Ct p s m args c g RX3 cc nL) (hH : Hp g S s H locs) (hdg : decode cc pc = .ok (.getfield 31, 3)) (kk : W p l e R s m args below meth c H locs cells slots Q (F0 m (pc + 3) ls (.int (iI (S 17 1)) :: rest))) : W p l e R s m args below meth c H locs cells slots Q (F0 m pc ls (.ref (g.1 17) :: rest)) :=
  gfG (ref := RX3) (C := RX3) (T := TX3) (N := 7) (ci := 2) C0 hH 17 rfl rfl inG3 1 (by decide) (gm 140 (by decide +kernel) rfl) rfl rfl hdg kk
theorem pf_X3_31 {z : Int} (C0 : Ct p s m args c g RX3 cc nL) (hH : Hp g S s H locs) (hdg : decode cc pc = .ok (.putfield 31, 3)) (kk : ∀ (H1 : Heap) (locs1 : List Loc), Hp g (st S 17 1 z) s H1 locs1 → W p l e R s m args below meth c H1 locs1 cells slots Q (F0 m (pc + 3) ls (rest))) : W p l e R s m args below meth c H locs cells slots Q (F0 m pc ls (.int (iI z) :: .ref (g.1 17) :: rest)) :=
  pfG (ref := RX3) (C := RX3) (T := TX3) (N := 7) (ci := 2) C0 hH 17 rfl rfl inG3 tyX3 tyX3_ok nmX3 1 (by decide) (gm 140 (by decide +kernel) rfl) rfl rfl (by decide +kernel) (Nat.le_of_ble_eq_true rfl) rfl hdg kk
theorem gf_X4_9 (C0 : Ct p s m args c g RX4 cc nL) (hH : Hp g S s H locs) (hdg : decode cc pc = .ok (.getfield 9, 3)) (kk : W p l e R s m args below meth c H locs cells slots Q (F0 m (pc + 3) ls (.ref (g.1 13) :: rest))) : W p l e R s m args below meth c H locs cells slots Q (F0 m pc ls (.ref (g.1 12) :: rest)) :=
  gfG (ref := RX4) (C := RX4) (T := TX4) (N := 5) (ci := 3) C0 hH 12 rfl rfl inG4 1 (by decide) (gm 113 (by decide +kernel) rfl) rfl rfl hdg kk
theorem gf_X4_15 (C0 : Ct p s m args c g RX4 cc nL) (hH : Hp g S s H locs) (hdg : decode cc pc = .ok (.getfield 15, 3)) (kk : W p l e R s m args below meth c H locs cells slots Q (F0 m (pc + 3) ls (.ref (g.1 14) :: rest))) : W p l e R s m args below meth c H locs cells slots Q (F0 m pc ls (.ref (g.1 12) :: rest)) :=
  gfG (ref := RX4) (C := RX4) (T := TX4) (N := 5) (ci := 3) C0 hH 12 rfl rfl inG4 2 (by decide) (gm 115 (by decide +kernel) rfl) rfl rfl hdg kk
theorem gf_X4_18 (C0 : Ct p s m args c g RX4 cc nL) (hH : Hp g S s H locs) (hdg : decode cc pc = .ok (.getfield 18, 3)) (kk : W p l e R s m args below meth c H locs cells slots Q (F0 m (pc + 3) ls (.ref (g.1 15) :: rest))) : W p l e R s m args below meth c H locs cells slots Q (F0 m pc ls (.ref (g.1 12) :: rest)) :=
  gfG (ref := RX4) (C := RX4) (T := TX4) (N := 5) (ci := 3) C0 hH 12 rfl rfl inG4 3 (by decide) (gm 117 (by decide +kernel) rfl) rfl rfl hdg kk
theorem gf_X4_21 (C0 : Ct p s m args c g RX4 cc nL) (hH : Hp g S s H locs) (hdg : decode cc pc = .ok (.getfield 21, 3)) (kk : W p l e R s m args below meth c H locs cells slots Q (F0 m (pc + 3) ls (.ref (g.1 16) :: rest))) : W p l e R s m args below meth c H locs cells slots Q (F0 m pc ls (.ref (g.1 12) :: rest)) :=
  gfG (ref := RX4) (C := RX4) (T := TX4) (N := 5) (ci := 3) C0 hH 12 rfl rfl inG4 4 (by decide) (gm 119 (by decide +kernel) rfl) rfl rfl hdg kk
theorem gf_X4_24 (C0 : Ct p s m args c g RX4 cc nL) (hH : Hp g S s H locs) (hdg : decode cc pc = .ok (.getfield 24, 3)) (kk : W p l e R s m args below meth c H locs cells slots Q (F0 m (pc + 3) ls (.int (iI (S 12 0)) :: rest))) : W p l e R s m args below meth c H locs cells slots Q (F0 m pc ls (.ref (g.1 12) :: rest)) :=
  gfG (ref := RX4) (C := RX4) (T := TX4) (N := 5) (ci := 3) C0 hH 12 rfl rfl inG4 0 (by decide) (gm 111 (by decide +kernel) rfl) rfl rfl hdg kk
theorem pf_X4_24 {z : Int} (C0 : Ct p s m args c g RX4 cc nL) (hH : Hp g S s H locs) (hdg : decode cc pc = .ok (.putfield 24, 3)) (kk : ∀ (H1 : Heap) (locs1 : List Loc), Hp g (st S 12 0 z) s H1 locs1 → W p l e R s m args below meth c H1 locs1 cells slots Q (F0 m (pc + 3) ls (rest))) : W p l e R s m args below meth c H locs cells slots Q (F0 m pc ls (.int (iI z) :: .ref (g.1 12) :: rest)) :=
  pfG (ref := RX4) (C := RX4) (T := TX4) (N := 5) (ci := 3) C0 hH 12 rfl rfl inG4 tyX4 tyX4_ok nmX4 0 (by decide) (gm 111 (by decide +kernel) rfl) rfl rfl (by decide +kernel) (Nat.le_of_ble_eq_true rfl) rfl hdg kk
theorem gf_X5_9 (C0 : Ct p s m args c g RX5 cc nL) (hH : Hp g S s H locs) (hdg : decode cc pc = .ok (.getfield 9, 3)) (kk : W p l e R s m args below meth c H locs cells slots Q (F0 m (pc + 3) ls (.ref (g.1 5) :: rest))) : W p l e R s m args below meth c H locs cells slots Q (F0 m pc ls (.ref (g.1 4) :: rest)) :=
  gfG (ref := RX5) (C := RX5) (T := TX5) (N := 4) (ci := 4) C0 hH 4 rfl rfl inG5 1 (by decide) (gm 69 (by decide +kernel) rfl) rfl rfl hdg kk
theorem gf_X5_15 (C0 : Ct p s m args c g RX5 cc nL) (hH : Hp g S s H locs) (hdg : decode cc pc = .ok (.getfield 15, 3)) (kk : W p l e R s m args below meth c H locs cells slots Q (F0 m (pc + 3) ls (.ref (g.1 6) :: rest))) : W p l e R s m args below meth c H locs cells slots Q (F0 m pc ls (.ref (g.1 4) :: rest)) :=
  gfG (ref := RX5) (C := RX5) (T := TX5) (N := 4) (ci := 4) C0 hH 4 rfl rfl inG5 2 (by decide) (gm 71 (by decide +kernel) rfl) rfl rfl hdg kk
theorem gf_X5_18 (C0 : Ct p s m args c g RX5 cc nL) (hH : Hp g S s H locs) (hdg : decode cc pc = .ok (.getfield 18, 3)) (kk : W p l e R s m args below meth c H locs cells slots Q (F0 m (pc + 3) ls (.ref (g.1 7) :: rest))) : W p l e R s m args below meth c H locs cells slots Q (F0 m pc ls (.ref (g.1 4) :: rest)) :=
  gfG (ref := RX5) (C := RX5) (T := TX5) (N := 4) (ci := 4) C0 hH 4 rfl rfl inG5 3 (by decide) (gm 73 (by decide +kernel) rfl) rfl rfl hdg kk
theorem gf_X5_21 (C0 : Ct p s m args c g RX5 cc nL) (hH : Hp g S s H locs) (hdg : decode cc pc = .ok (.getfield 21, 3)) (kk : W p l e R s m args below meth c H locs cells slots Q (F0 m (pc + 3) ls (.int (iI (S 4 0)) :: rest))) : W p l e R s m args below meth c H locs cells slots Q (F0 m pc ls (.ref (g.1 4) :: rest)) :=
  gfG (ref := RX5) (C := RX5) (T := TX5) (N := 4) (ci := 4) C0 hH 4 rfl rfl inG5 0 (by decide) (gm 67 (by decide +kernel) rfl) rfl rfl hdg kk
theorem pf_X5_21 {z : Int} (C0 : Ct p s m args c g RX5 cc nL) (hH : Hp g S s H locs) (hdg : decode cc pc = .ok (.putfield 21, 3)) (kk : ∀ (H1 : Heap) (locs1 : List Loc), Hp g (st S 4 0 z) s H1 locs1 → W p l e R s m args below meth c H1 locs1 cells slots Q (F0 m (pc + 3) ls (rest))) : W p l e R s m args below meth c H locs cells slots Q (F0 m pc ls (.int (iI z) :: .ref (g.1 4) :: rest)) :=
  pfG (ref := RX5) (C := RX5) (T := TX5) (N := 4) (ci := 4) C0 hH 4 rfl rfl inG5 tyX5 tyX5_ok nmX5 0 (by decide) (gm 67 (by decide +kernel) rfl) rfl rfl (by decide +kernel) (Nat.le_of_ble_eq_true rfl) rfl hdg kk
theorem al_2 {own : String} {z : Int} (C0 : Ct p s m args c g own cc nL) (hH : Hp g S s H locs) (h0 : 0 ≤ z) (h1 : z < 24) (hdg : decode cc pc = .ok (.iaload, 1)) (kk : W p l e R s m args below meth c H locs cells slots Q (F0 m (pc + 1) ls (.int (iI (S 2 z)) :: rest))) : W p l e R s m args below meth c H locs cells slots Q (F0 m pc ls (.int (iI z) :: .ref (g.1 2) :: rest)) :=
  alG C0 hH 2 24 rfl (by decide) h0 h1 hdg kk
theorem as_2 {own : String} {z x : Int} (C0 : Ct p s m args c g own cc nL) (hH : Hp g S s H locs) (h0 : 0 ≤ z) (h1 : z < 24) (hdg : decode cc pc = .ok (.iastore, 1)) (kk : ∀ (H1 : Heap) (locs1 : List Loc), Hp g (st S 2 z x) s H1 locs1 → W p l e R s m args below meth c H1 locs1 cells slots Q (F0 m (pc + 1) ls (rest))) : W p l e R s m args below meth c H locs cells slots Q (F0 m pc ls (.int (iI x) :: .int (iI z) :: .ref (g.1 2) :: rest)) :=
  asG C0 hH 2 24 rfl (by decide) rfl h0 h1 hdg kk
theorem al_3 {own : String} {z : Int} (C0 : Ct p s m args c g own cc nL) (hH : Hp g S s H locs) (h0 : 0 ≤ z) (h1 : z < 24) (hdg : decode cc pc = .ok (.iaload, 1)) (kk : W p l e R s m args below meth c H locs cells slots Q (F0 m (pc + 1) ls (.int (iI (S 3 z)) :: rest))) : W p l e R s m args below meth c H locs cells slots Q (F0 m pc ls (.int (iI z) :: .ref (g.1 3) :: rest)) :=
  alG C0 hH 3 24 rfl (by decide) h0 h1 hdg kk
theorem as_3 {own : String} {z x : Int} (C0 : Ct p s m args c g own cc nL) (hH : Hp g S s H locs) (h0 : 0 ≤ z) (h1 : z < 24) (hdg : decode cc pc = .ok (.iastore, 1)) (kk : ∀ (H1 : Heap) (locs1 : List Loc), Hp g (st S 3 z x) s H1 locs1 → W p l e R s m args below meth c H1 locs1 cells slots Q (F0 m (pc + 1) ls (rest))) : W p l e R s m args below meth c H locs cells slots Q (F0 m pc ls (.int (iI x) :: .int (iI z) :: .ref (g.1 3) :: rest)) :=
  asG C0 hH 3 24 rfl (by decide) rfl h0 h1 hdg kk
theorem al_5 {own : String} {z : Int} (C0 : Ct p s m args c g own cc nL) (hH : Hp g S s H locs) (h0 : 0 ≤ z) (h1 : z < 8) (hdg : decode cc pc = .ok (.iaload, 1)) (kk : W p l e R s m args below meth c H locs cells slots Q (F0 m (pc + 1) ls (.int (iI (S 5 z)) :: rest))) : W p l e R s m args below meth c H locs cells slots Q (F0 m pc ls (.int (iI z) :: .ref (g.1 5) :: rest)) :=
  alG C0 hH 5 8 rfl (by decide) h0 h1 hdg kk
theorem as_5 {own : String} {z x : Int} (C0 : Ct p s m args c g own cc nL) (hH : Hp g S s H locs) (h0 : 0 ≤ z) (h1 : z < 8) (hdg : decode cc pc = .ok (.iastore, 1)) (kk : ∀ (H1 : Heap) (locs1 : List Loc), Hp g (st S 5 z x) s H1 locs1 → W p l e R s m args below meth c H1 locs1 cells slots Q (F0 m (pc + 1) ls (rest))) : W p l e R s m args below meth c H locs cells slots Q (F0 m pc ls (.int (iI x) :: .int (iI z) :: .ref (g.1 5) :: rest)) :=
  asG C0 hH 5 8 rfl (by decide) rfl h0 h1 hdg kk
theorem al_6 {own : String} {z : Int} (C0 : Ct p s m args c g own cc nL) (hH : Hp g S s H locs) (h0 : 0 ≤ z) (h1 : z < 80) (hdg : decode cc pc = .ok (.iaload, 1)) (kk : W p l e R s m args below meth c H locs cells slots Q (F0 m (pc + 1) ls (.int (iI (S 6 z)) :: rest))) : W p l e R s m args below meth c H locs cells slots Q (F0 m pc ls (.int (iI z) :: .ref (g.1 6) :: rest)) :=
  alG C0 hH 6 80 rfl (by decide) h0 h1 hdg kk
theorem as_6 {own : String} {z x : Int} (C0 : Ct p s m args c g own cc nL) (hH : Hp g S s H locs) (h0 : 0 ≤ z) (h1 : z < 80) (hdg : decode cc pc = .ok (.iastore, 1)) (kk : ∀ (H1 : Heap) (locs1 : List Loc), Hp g (st S 6 z x) s H1 locs1 → W p l e R s m args below meth c H1 locs1 cells slots Q (F0 m (pc + 1) ls (rest))) : W p l e R s m args below meth c H locs cells slots Q (F0 m pc ls (.int (iI x) :: .int (iI z) :: .ref (g.1 6) :: rest)) :=
  asG C0 hH 6 80 rfl (by decide) rfl h0 h1 hdg kk
theorem al_7 {own : String} {z : Int} (C0 : Ct p s m args c g own cc nL) (hH : Hp g S s H locs) (h0 : 0 ≤ z) (h1 : z < 80) (hdg : decode cc pc = .ok (.iaload, 1)) (kk : W p l e R s m args below meth c H locs cells slots Q (F0 m (pc + 1) ls (.int (iI (S 7 z)) :: rest))) : W p l e R s m args below meth c H locs cells slots Q (F0 m pc ls (.int (iI z) :: .ref (g.1 7) :: rest)) :=
  alG C0 hH 7 80 rfl (by decide) h0 h1 hdg kk
theorem as_7 {own : String} {z x : Int} (C0 : Ct p s m args c g own cc nL) (hH : Hp g S s H locs) (h0 : 0 ≤ z) (h1 : z < 80) (hdg : decode cc pc = .ok (.iastore, 1)) (kk : ∀ (H1 : Heap) (locs1 : List Loc), Hp g (st S 7 z x) s H1 locs1 → W p l e R s m args below meth c H1 locs1 cells slots Q (F0 m (pc + 1) ls (rest))) : W p l e R s m args below meth c H locs cells slots Q (F0 m pc ls (.int (iI x) :: .int (iI z) :: .ref (g.1 7) :: rest)) :=
  asG C0 hH 7 80 rfl (by decide) rfl h0 h1 hdg kk
theorem al_9 {own : String} {z : Int} (C0 : Ct p s m args c g own cc nL) (hH : Hp g S s H locs) (h0 : 0 ≤ z) (h1 : z < 48) (hdg : decode cc pc = .ok (.iaload, 1)) (kk : W p l e R s m args below meth c H locs cells slots Q (F0 m (pc + 1) ls (.int (iI (S 9 z)) :: rest))) : W p l e R s m args below meth c H locs cells slots Q (F0 m pc ls (.int (iI z) :: .ref (g.1 9) :: rest)) :=
  alG C0 hH 9 48 rfl (by decide) h0 h1 hdg kk
theorem as_9 {own : String} {z x : Int} (C0 : Ct p s m args c g own cc nL) (hH : Hp g S s H locs) (h0 : 0 ≤ z) (h1 : z < 48) (hdg : decode cc pc = .ok (.iastore, 1)) (kk : ∀ (H1 : Heap) (locs1 : List Loc), Hp g (st S 9 z x) s H1 locs1 → W p l e R s m args below meth c H1 locs1 cells slots Q (F0 m (pc + 1) ls (rest))) : W p l e R s m args below meth c H locs cells slots Q (F0 m pc ls (.int (iI x) :: .int (iI z) :: .ref (g.1 9) :: rest)) :=
  asG C0 hH 9 48 rfl (by decide) rfl h0 h1 hdg kk
theorem al_10 {own : String} {z : Int} (C0 : Ct p s m args c g own cc nL) (hH : Hp g S s H locs) (h0 : 0 ≤ z) (h1 : z < 80) (hdg : decode cc pc = .ok (.iaload, 1)) (kk : W p l e R s m args below meth c H locs cells slots Q (F0 m (pc + 1) ls (.int (iI (S 10 z)) :: rest))) : W p l e R s m args below meth c H locs cells slots Q (F0 m pc ls (.int (iI z) :: .ref (g.1 10) :: rest)) :=
  alG C0 hH 10 80 rfl (by decide) h0 h1 hdg kk
theorem as_10 {own : String} {z x : Int} (C0 : Ct p s m args c g own cc nL) (hH : Hp g S s H locs) (h0 : 0 ≤ z) (h1 : z < 80) (hdg : decode cc pc = .ok (.iastore, 1)) (kk : ∀ (H1 : Heap) (locs1 : List Loc), Hp g (st S 10 z x) s H1 locs1 → W p l e R s m args below meth c H1 locs1 cells slots Q (F0 m (pc + 1) ls (rest))) : W p l e R s m args below meth c H locs cells slots Q (F0 m pc ls (.int (iI x) :: .int (iI z) :: .ref (g.1 10) :: rest)) :=
  asG C0 hH 10 80 rfl (by decide) rfl h0 h1 hdg kk
theorem al_11 {own : String} {z : Int} (C0 : Ct p s m args c g own cc nL) (hH : Hp g S s H locs) (h0 : 0 ≤ z) (h1 : z < 8) (hdg : decode cc pc = .ok (.iaload, 1)) (kk : W p l e R s m args below meth c H locs cells slots Q (F0 m (pc + 1) ls (.int (iI (S 11 z)) :: rest))) : W p l e R s m args below meth c H locs cells slots Q (F0 m pc ls (.int (iI z) :: .ref (g.1 11) :: rest)) :=
  alG C0 hH 11 8 rfl (by decide) h0 h1 hdg kk
theorem as_11 {own : String} {z x : Int} (C0 : Ct p s m args c g own cc nL) (hH : Hp g S s H locs) (h0 : 0 ≤ z) (h1 : z < 8) (hdg : decode cc pc = .ok (.iastore, 1)) (kk : ∀ (H1 : Heap) (locs1 : List Loc), Hp g (st S 11 z x) s H1 locs1 → W p l e R s m args below meth c H1 locs1 cells slots Q (F0 m (pc + 1) ls (rest))) : W p l e R s m args below meth c H locs cells slots Q (F0 m pc ls (.int (iI x) :: .int (iI z) :: .ref (g.1 11) :: rest)) :=
  asG C0 hH 11 8 rfl (by decide) rfl h0 h1 hdg kk
theorem al_13 {own : String} {z : Int} (C0 : Ct p s m args c g own cc nL) (hH : Hp g S s H locs) (h0 : 0 ≤ z) (h1 : z < 12) (hdg : decode cc pc = .ok (.iaload, 1)) (kk : W p l e R s m args below meth c H locs cells slots Q (F0 m (pc + 1) ls (.int (iI (S 13 z)) :: rest))) : W p l e R s m args below meth c H locs cells slots Q (F0 m pc ls (.int (iI z) :: .ref (g.1 13) :: rest)) :=
  alG C0 hH 13 12 rfl (by decide) h0 h1 hdg kk
theorem as_13 {own : String} {z x : Int} (C0 : Ct p s m args c g own cc nL) (hH : Hp g S s H locs) (h0 : 0 ≤ z) (h1 : z < 12) (hdg : decode cc pc = .ok (.iastore, 1)) (kk : ∀ (H1 : Heap) (locs1 : List Loc), Hp g (st S 13 z x) s H1 locs1 → W p l e R s m args below meth c H1 locs1 cells slots Q (F0 m (pc + 1) ls (rest))) : W p l e R s m args below meth c H locs cells slots Q (F0 m pc ls (.int (iI x) :: .int (iI z) :: .ref (g.1 13) :: rest)) :=
  asG C0 hH 13 12 rfl (by decide) rfl h0 h1 hdg kk
theorem al_14 {own : String} {z : Int} (C0 : Ct p s m args c g own cc nL) (hH : Hp g S s H locs) (h0 : 0 ≤ z) (h1 : z < 12) (hdg : decode cc pc = .ok (.iaload, 1)) (kk : W p l e R s m args below meth c H locs cells slots Q (F0 m (pc + 1) ls (.int (iI (S 14 z)) :: rest))) : W p l e R s m args below meth c H locs cells slots Q (F0 m pc ls (.int (iI z) :: .ref (g.1 14) :: rest)) :=
  alG C0 hH 14 12 rfl (by decide) h0 h1 hdg kk
theorem as_14 {own : String} {z x : Int} (C0 : Ct p s m args c g own cc nL) (hH : Hp g S s H locs) (h0 : 0 ≤ z) (h1 : z < 12) (hdg : decode cc pc = .ok (.iastore, 1)) (kk : ∀ (H1 : Heap) (locs1 : List Loc), Hp g (st S 14 z x) s H1 locs1 → W p l e R s m args below meth c H1 locs1 cells slots Q (F0 m (pc + 1) ls (rest))) : W p l e R s m args below meth c H locs cells slots Q (F0 m pc ls (.int (iI x) :: .int (iI z) :: .ref (g.1 14) :: rest)) :=
  asG C0 hH 14 12 rfl (by decide) rfl h0 h1 hdg kk
theorem al_15 {own : String} {z : Int} (C0 : Ct p s m args c g own cc nL) (hH : Hp g S s H locs) (h0 : 0 ≤ z) (h1 : z < 12) (hdg : decode cc pc = .ok (.iaload, 1)) (kk : W p l e R s m args below meth c H locs cells slots Q (F0 m (pc + 1) ls (.int (iI (S 15 z)) :: rest))) : W p l e R s m args below meth c H locs cells slots Q (F0 m pc ls (.int (iI z) :: .ref (g.1 15) :: rest)) :=
  alG C0 hH 15 12 rfl (by decide) h0 h1 hdg kk
theorem as_15 {own : String} {z x : Int} (C0 : Ct p s m args c g own cc nL) (hH : Hp g S s H locs) (h0 : 0 ≤ z) (h1 : z < 12) (hdg : decode cc pc = .ok (.iastore, 1)) (kk : ∀ (H1 : Heap) (locs1 : List Loc), Hp g (st S 15 z x) s H1 locs1 → W p l e R s m args below meth c H1 locs1 cells slots Q (F0 m (pc + 1) ls (rest))) : W p l e R s m args below meth c H locs cells slots Q (F0 m pc ls (.int (iI x) :: .int (iI z) :: .ref (g.1 15) :: rest)) :=
  asG C0 hH 15 12 rfl (by decide) rfl h0 h1 hdg kk
theorem al_16 {own : String} {z : Int} (C0 : Ct p s m args c g own cc nL) (hH : Hp g S s H locs) (h0 : 0 ≤ z) (h1 : z < 12) (hdg : decode cc pc = .ok (.iaload, 1)) (kk : W p l e R s m args below meth c H locs cells slots Q (F0 m (pc + 1) ls (.int (iI (S 16 z)) :: rest))) : W p l e R s m args below meth c H locs cells slots Q (F0 m pc ls (.int (iI z) :: .ref (g.1 16) :: rest)) :=
  alG C0 hH 16 12 rfl (by decide) h0 h1 hdg kk
theorem as_16 {own : String} {z x : Int} (C0 : Ct p s m args c g own cc nL) (hH : Hp g S s H locs) (h0 : 0 ≤ z) (h1 : z < 12) (hdg : decode cc pc = .ok (.iastore, 1)) (kk : ∀ (H1 : Heap) (locs1 : List Loc), Hp g (st S 16 z x) s H1 locs1 → W p l e R s m args below meth c H1 locs1 cells slots Q (F0 m (pc + 1) ls (rest))) : W p l e R s m args below meth c H locs cells slots Q (F0 m pc ls (.int (iI x) :: .int (iI z) :: .ref (g.1 16) :: rest)) :=
  asG C0 hH 16 12 rfl (by decide) rfl h0 h1 hdg kk
theorem al_18 {own : String} {z : Int} (C0 : Ct p s m args c g own cc nL) (hH : Hp g S s H locs) (h0 : 0 ≤ z) (h1 : z < 30) (hdg : decode cc pc = .ok (.iaload, 1)) (kk : W p l e R s m args below meth c H locs cells slots Q (F0 m (pc + 1) ls (.int (iI (S 18 z)) :: rest))) : W p l e R s m args below meth c H locs cells slots Q (F0 m pc ls (.int (iI z) :: .ref (g.1 18) :: rest)) :=
  alG C0 hH 18 30 rfl (by decide) h0 h1 hdg kk
theorem as_18 {own : String} {z x : Int} (C0 : Ct p s m args c g own cc nL) (hH : Hp g S s H locs) (h0 : 0 ≤ z) (h1 : z < 30) (hdg : decode cc pc = .ok (.iastore, 1)) (kk : ∀ (H1 : Heap) (locs1 : List Loc), Hp g (st S 18 z x) s H1 locs1 → W p l e R s m args below meth c H1 locs1 cells slots Q (F0 m (pc + 1) ls (rest))) : W p l e R s m args below meth c H locs cells slots Q (F0 m pc ls (.int (iI x) :: .int (iI z) :: .ref (g.1 18) :: rest)) :=
  asG C0 hH 18 30 rfl (by decide) rfl h0 h1 hdg kk
theorem al_19 {own : String} {z : Int} (C0 : Ct p s m args c g own cc nL) (hH : Hp g S s H locs) (h0 : 0 ≤ z) (h1 : z < 30) (hdg : decode cc pc = .ok (.iaload, 1)) (kk : W p l e R s m args below meth c H locs cells slots Q (F0 m (pc + 1) ls (.int (iI (S 19 z)) :: rest))) : W p l e R s m args below meth c H locs cells slots Q (F0 m pc ls (.int (iI z) :: .ref (g.1 19) :: rest)) :=
  alG C0 hH 19 30 rfl (by decide) h0 h1 hdg kk
theorem as_19 {own : String} {z x : Int} (C0 : Ct p s m args c g own cc nL) (hH : Hp g S s H locs) (h0 : 0 ≤ z) (h1 : z < 30) (hdg : decode cc pc = .ok (.iastore, 1)) (kk : ∀ (H1 : Heap) (locs1 : List Loc), Hp g (st S 19 z x) s H1 locs1 → W p l e R s m args below meth c H1 locs1 cells slots Q (F0 m (pc + 1) ls (rest))) : W p l e R s m args below meth c H locs cells slots Q (F0 m pc ls (.int (iI x) :: .int (iI z) :: .ref (g.1 19) :: rest)) :=
  asG C0 hH 19 30 rfl (by decide) rfl h0 h1 hdg kk
theorem al_20 {own : String} {z : Int} (C0 : Ct p s m args c g own cc nL) (hH : Hp g S s H locs) (h0 : 0 ≤ z) (h1 : z < 30) (hdg : decode cc pc = .ok (.iaload, 1)) (kk : W p l e R s m args below meth c H locs cells slots Q (F0 m (pc + 1) ls (.int (iI (S 20 z)) :: rest))) : W p l e R s m args below meth c H locs cells slots Q (F0 m pc ls (.int (iI z) :: .ref (g.1 20) :: rest)) :=
  alG C0 hH 20 30 rfl (by decide) h0 h1 hdg kk
theorem as_20 {own : String} {z x : Int} (C0 : Ct p s m args c g own cc nL) (hH : Hp g S s H locs) (h0 : 0 ≤ z) (h1 : z < 30) (hdg : decode cc pc = .ok (.iastore, 1)) (kk : ∀ (H1 : Heap) (locs1 : List Loc), Hp g (st S 20 z x) s H1 locs1 → W p l e R s m args below meth c H1 locs1 cells slots Q (F0 m (pc + 1) ls (rest))) : W p l e R s m args below meth c H locs cells slots Q (F0 m pc ls (.int (iI x) :: .int (iI z) :: .ref (g.1 20) :: rest)) :=
  asG C0 hH 20 30 rfl (by decide) rfl h0 h1 hdg kk
theorem al_21 {own : String} {z : Int} (C0 : Ct p s m args c g own cc nL) (hH : Hp g S s H locs) (h0 : 0 ≤ z) (h1 : z < 30) (hdg : decode cc pc = .ok (.iaload, 1)) (kk : W p l e R s m args below meth c H locs cells slots Q (F0 m (pc + 1) ls (.int (iI (S 21 z)) :: rest))) : W p l e R s m args below meth c H locs cells slots Q (F0 m pc ls (.int (iI z) :: .ref (g.1 21) :: rest)) :=
  alG C0 hH 21 30 rfl (by decide) h0 h1 hdg kk
theorem as_21 {own : String} {z x : Int} (C0 : Ct p s m args c g own cc nL) (hH : Hp g S s H locs) (h0 : 0 ≤ z) (h1 : z < 30) (hdg : decode cc pc = .ok (.iastore, 1)) (kk : ∀ (H1 : Heap) (locs1 : List Loc), Hp g (st S 21 z x) s H1 locs1 → W p l e R s m args below meth c H1 locs1 cells slots Q (F0 m (pc + 1) ls (rest))) : W p l e R s m args below meth c H locs cells slots Q (F0 m pc ls (.int (iI x) :: .int (iI z) :: .ref (g.1 21) :: rest)) :=
  asG C0 hH 21 30 rfl (by decide) rfl h0 h1 hdg kk
theorem al_22 {own : String} {z : Int} (C0 : Ct p s m args c g own cc nL) (hH : Hp g S s H locs) (h0 : 0 ≤ z) (h1 : z < 30) (hdg : decode cc pc = .ok (.iaload, 1)) (kk : W p l e R s m args below meth c H locs cells slots Q (F0 m (pc + 1) ls (.int (iI (S 22 z)) :: rest))) : W p l e R s m args below meth c H locs cells slots Q (F0 m pc ls (.int (iI z) :: .ref (g.1 22) :: rest)) :=
  alG C0 hH 22 30 rfl (by decide) h0 h1 hdg kk
theorem as_22 {own : String} {z x : Int} (C0 : Ct p s m args c g own cc nL) (hH : Hp g S s H locs) (h0 : 0 ≤ z) (h1 : z < 30) (hdg : decode cc pc = .ok (.iastore, 1)) (kk : ∀ (H1 : Heap) (locs1 : List Loc), Hp g (st S 22 z x) s H1 locs1 → W p l e R s m args below meth c H1 locs1 cells slots Q (F0 m (pc + 1) ls (rest))) : W p l e R s m args below meth c H locs cells slots Q (F0 m pc ls (.int (iI x) :: .int (iI z) :: .ref (g.1 22) :: rest)) :=
  asG C0 hH 22 30 rfl (by decide) rfl h0 h1 hdg kk
end ST
theorem kw_X6_44 : kwS RX6 44 yX6_needPlace cX6_needPlace 2 none := ⟨gm 187 (by decide +kernel) rfl, gm 188 (by decide +kernel) rfl, gm 189 (by decide +kernel) rfl, gm 17 (by decide +kernel) rfl⟩
theorem kw_X6_59 : kwV RX6 59 yX2_append cX2_append 4 (some .int) := ⟨gm 275 (by decide +kernel) rfl, gm 276 (by decide +kernel) rfl, gm 277 (by decide +kernel) rfl, gm 278 (by decide +kernel) rfl, gm 18 (by decide +kernel) rfl⟩
theorem kw_X6_63 : kwV RX6 63 yX6_needStar cX6_needStar 2 none := ⟨gm 287 (by decide +kernel) rfl, gm 289 (by decide +kernel) rfl, gm 1 (by decide +kernel) rfl, gm 290 (by decide +kernel) rfl, gm 17 (by decide +kernel) rfl⟩
theorem kw_X6_74 : kwV RX6 74 yX3_keep cX3_keep 6 none := ⟨gm 307 (by decide +kernel) rfl, gm 308 (by decide +kernel) rfl, gm 309 (by decide +kernel) rfl, gm 310 (by decide +kernel) rfl, gm 23 (by decide +kernel) rfl⟩
theorem kw_X6_78 : kwV RX6 78 yX2_move cX2_move 4 none := ⟨gm 314 (by decide +kernel) rfl, gm 280 (by decide +kernel) rfl, gm 281 (by decide +kernel) rfl, gm 282 (by decide +kernel) rfl, gm 18 (by decide +kernel) rfl⟩
theorem kw_X6_82 : kwV RX6 82 yX6_countWrongShows cX6_countWrongShows 3 (some .int) := ⟨gm 315 (by decide +kernel) rfl, gm 317 (by decide +kernel) rfl, gm 2 (by decide +kernel) rfl, gm 318 (by decide +kernel) rfl, gm 17 (by decide +kernel) rfl⟩
theorem kw_X6_91 : kwV RX6 91 yX5_appendFigure cX5_appendFigure 2 (some .int) := ⟨gm 354 (by decide +kernel) rfl, gm 355 (by decide +kernel) rfl, gm 356 (by decide +kernel) rfl, gm 357 (by decide +kernel) rfl, gm 19 (by decide +kernel) rfl⟩
theorem kw_X6_94 : kwV RX6 94 yX6_needFigure cX6_needFigure 2 none := ⟨gm 362 (by decide +kernel) rfl, gm 364 (by decide +kernel) rfl, gm 5 (by decide +kernel) rfl, gm 365 (by decide +kernel) rfl, gm 17 (by decide +kernel) rfl⟩
theorem kw_X6_107 : kwV RX6 107 yX5_joins cX5_joins 8 (some .boolean) := ⟨gm 511 (by decide +kernel) rfl, gm 512 (by decide +kernel) rfl, gm 513 (by decide +kernel) rfl, gm 514 (by decide +kernel) rfl, gm 19 (by decide +kernel) rfl⟩
theorem kw_X6_113 : kwV RX6 113 yX5_isOfAnother cX5_isOfAnother 4 (some .boolean) := ⟨gm 516 (by decide +kernel) rfl, gm 517 (by decide +kernel) rfl, gm 518 (by decide +kernel) rfl, gm 519 (by decide +kernel) rfl, gm 19 (by decide +kernel) rfl⟩
theorem kw_X6_119 : kwV RX6 119 yX5_insert cX5_insert 7 none := ⟨gm 522 (by decide +kernel) rfl, gm 523 (by decide +kernel) rfl, gm 524 (by decide +kernel) rfl, gm 525 (by decide +kernel) rfl, gm 19 (by decide +kernel) rfl⟩
theorem kw_X6_128 : kwS RX6 128 yX5_place cX5_place 2 (some .int) := ⟨gm 327 (by decide +kernel) rfl, gm 328 (by decide +kernel) rfl, gm 329 (by decide +kernel) rfl, gm 19 (by decide +kernel) rfl⟩
theorem kw_X6_137 : kwV RX6 137 yX5_remove cX5_remove 5 none := ⟨gm 368 (by decide +kernel) rfl, gm 369 (by decide +kernel) rfl, gm 370 (by decide +kernel) rfl, gm 371 (by decide +kernel) rfl, gm 19 (by decide +kernel) rfl⟩
theorem kw_X6_145 : kwV RX6 145 yX3_stepBack cX3_stepBack 1 none := ⟨gm 534 (by decide +kernel) rfl, gm 535 (by decide +kernel) rfl, gm 536 (by decide +kernel) rfl, gm 537 (by decide +kernel) rfl, gm 23 (by decide +kernel) rfl⟩
theorem kw_X6_151 : kwV RX6 151 yX6_takeBack cX6_takeBack 6 none := ⟨gm 538 (by decide +kernel) rfl, gm 540 (by decide +kernel) rfl, gm 14 (by decide +kernel) rfl, gm 541 (by decide +kernel) rfl, gm 17 (by decide +kernel) rfl⟩
theorem kw_X6_154 : kwV RX6 154 yX5_ownerOf cX5_ownerOf 3 (some .int) := ⟨gm 393 (by decide +kernel) rfl, gm 394 (by decide +kernel) rfl, gm 395 (by decide +kernel) rfl, gm 396 (by decide +kernel) rfl, gm 19 (by decide +kernel) rfl⟩
theorem kw_X6_158 : kwV RX6 158 yX6_linesCross cX6_linesCross 8 (some .boolean) := ⟨gm 405 (by decide +kernel) rfl, gm 407 (by decide +kernel) rfl, gm 7 (by decide +kernel) rfl, gm 408 (by decide +kernel) rfl, gm 17 (by decide +kernel) rfl⟩
theorem kw_X6_163 : kwS RX6 163 yX6_needName cX6_needName 1 none := ⟨gm 436 (by decide +kernel) rfl, gm 437 (by decide +kernel) rfl, gm 438 (by decide +kernel) rfl, gm 17 (by decide +kernel) rfl⟩
theorem kw_X6_166 : kwV RX6 166 yX1_replace cX1_replace 6 (some .int) := ⟨gm 440 (by decide +kernel) rfl, gm 441 (by decide +kernel) rfl, gm 442 (by decide +kernel) rfl, gm 443 (by decide +kernel) rfl, gm 20 (by decide +kernel) rfl⟩
theorem kw_X6_176 : kwS RX6 176 yX6_needLatitude cX6_needLatitude 1 none := ⟨gm 468 (by decide +kernel) rfl, gm 469 (by decide +kernel) rfl, gm 470 (by decide +kernel) rfl, gm 17 (by decide +kernel) rfl⟩
theorem kw_X6_179 : kwS RX6 179 yX6_needDay cX6_needDay 1 none := ⟨gm 472 (by decide +kernel) rfl, gm 473 (by decide +kernel) rfl, gm 474 (by decide +kernel) rfl, gm 17 (by decide +kernel) rfl⟩
theorem kw_X6_182 : kwS RX6 182 yX6_needHour cX6_needHour 1 none := ⟨gm 476 (by decide +kernel) rfl, gm 477 (by decide +kernel) rfl, gm 478 (by decide +kernel) rfl, gm 17 (by decide +kernel) rfl⟩
theorem kw_X6_185 : kwS RX6 185 yX6_skyTurn cX6_skyTurn 2 (some .int) := ⟨gm 480 (by decide +kernel) rfl, gm 481 (by decide +kernel) rfl, gm 482 (by decide +kernel) rfl, gm 17 (by decide +kernel) rfl⟩
theorem kw_X6_188 : kwV RX6 188 yX2_heightAt cX2_heightAt 7 (some .int) := ⟨gm 330 (by decide +kernel) rfl, gm 331 (by decide +kernel) rfl, gm 332 (by decide +kernel) rfl, gm 333 (by decide +kernel) rfl, gm 18 (by decide +kernel) rfl⟩
theorem kw_X6_191 : kwV RX6 191 yX6_figureIsUp cX6_figureIsUp 4 (some .boolean) := ⟨gm 483 (by decide +kernel) rfl, gm 485 (by decide +kernel) rfl, gm 13 (by decide +kernel) rfl, gm 486 (by decide +kernel) rfl, gm 17 (by decide +kernel) rfl⟩
theorem kw_X6_195 : kwV RX6 195 yX6_hoursOfStar cX6_hoursOfStar 6 (some .int) := ⟨gm 578 (by decide +kernel) rfl, gm 580 (by decide +kernel) rfl, gm 15 (by decide +kernel) rfl, gm 581 (by decide +kernel) rfl, gm 17 (by decide +kernel) rfl⟩
theorem kw_X6_198 : kwV RX6 198 yX6_lowestHeight cX6_lowestHeight 8 (some .int) := ⟨gm 323 (by decide +kernel) rfl, gm 325 (by decide +kernel) rfl, gm 4 (by decide +kernel) rfl, gm 326 (by decide +kernel) rfl, gm 17 (by decide +kernel) rfl⟩
theorem kw_X6_210 : kwV RX6 210 yX4_append cX4_append 6 (some .int) := ⟨gm 552 (by decide +kernel) rfl, gm 553 (by decide +kernel) rfl, gm 554 (by decide +kernel) rfl, gm 555 (by decide +kernel) rfl, gm 22 (by decide +kernel) rfl⟩
theorem kw_X6_215 : kwV RX6 215 yX6_showIsWrong cX6_showIsWrong 3 (some .boolean) := ⟨gm 319 (by decide +kernel) rfl, gm 321 (by decide +kernel) rfl, gm 3 (by decide +kernel) rfl, gm 322 (by decide +kernel) rfl, gm 17 (by decide +kernel) rfl⟩
theorem kw_X6_250 : kwV RX6 250 yX2_meet cX2_meet 5 (some .boolean) := ⟨gm 409 (by decide +kernel) rfl, gm 410 (by decide +kernel) rfl, gm 411 (by decide +kernel) rfl, gm 412 (by decide +kernel) rfl, gm 18 (by decide +kernel) rfl⟩
theorem kw_X6_254 : kwS RX6 254 yJ9_min_7cf53 cJ9_min_7cf53 2 (some .int) := ⟨gm 348 (by decide +kernel) rfl, gm 312 (by decide +kernel) rfl, gm 313 (by decide +kernel) rfl, gm 25 (by decide +kernel) rfl⟩
theorem kw_X0_9 : kwS RX0 9 yJ9_floorMod_7cf53 cJ9_floorMod_7cf53 3 (some .int) := ⟨gm 337 (by decide +kernel) rfl, gm 338 (by decide +kernel) rfl, gm 339 (by decide +kernel) rfl, gm 25 (by decide +kernel) rfl⟩
theorem kw_X0_18 : kwS RX0 18 yX0_sine cX0_sine 6 (some .int) := ⟨gm 344 (by decide +kernel) rfl, gm 335 (by decide +kernel) rfl, gm 336 (by decide +kernel) rfl, gm 24 (by decide +kernel) rfl⟩
theorem kw_X1_21 : kwS RX1 21 yJ7_fill_53178 cJ7_fill_53178 4 none := ⟨gm 90 (by decide +kernel) rfl, gm 91 (by decide +kernel) rfl, gm 92 (by decide +kernel) rfl, gm 21 (by decide +kernel) rfl⟩
theorem kw_X1_27 : kwV RX1 27 yX1_count cX1_count 4 none := ⟨gm 444 (by decide +kernel) rfl, gm 446 (by decide +kernel) rfl, gm 10 (by decide +kernel) rfl, gm 447 (by decide +kernel) rfl, gm 20 (by decide +kernel) rfl⟩
theorem kw_X1_31 : kwV RX1 31 yX1_giveNames cX1_giveNames 4 none := ⟨gm 448 (by decide +kernel) rfl, gm 450 (by decide +kernel) rfl, gm 11 (by decide +kernel) rfl, gm 451 (by decide +kernel) rfl, gm 20 (by decide +kernel) rfl⟩
theorem kw_X1_34 : kwV RX1 34 yX1_giveName cX1_giveName 6 (some .int) := ⟨gm 452 (by decide +kernel) rfl, gm 454 (by decide +kernel) rfl, gm 12 (by decide +kernel) rfl, gm 455 (by decide +kernel) rfl, gm 20 (by decide +kernel) rfl⟩
theorem kw_X2_22 : kwV RX2 22 yX2_move cX2_move 4 none := ⟨gm 279 (by decide +kernel) rfl, gm 280 (by decide +kernel) rfl, gm 281 (by decide +kernel) rfl, gm 282 (by decide +kernel) rfl, gm 18 (by decide +kernel) rfl⟩
theorem kw_X2_26 : kwS RX2 26 yX0_sine cX0_sine 6 (some .int) := ⟨gm 334 (by decide +kernel) rfl, gm 335 (by decide +kernel) rfl, gm 336 (by decide +kernel) rfl, gm 24 (by decide +kernel) rfl⟩
theorem kw_X2_32 : kwS RX2 32 yX0_cosine cX0_cosine 1 (some .int) := ⟨gm 341 (by decide +kernel) rfl, gm 342 (by decide +kernel) rfl, gm 343 (by decide +kernel) rfl, gm 24 (by decide +kernel) rfl⟩
theorem kw_X2_35 : kwS RX2 35 yJ9_floorDiv_7cf53 cJ9_floorDiv_7cf53 3 (some .int) := ⟨gm 345 (by decide +kernel) rfl, gm 346 (by decide +kernel) rfl, gm 347 (by decide +kernel) rfl, gm 25 (by decide +kernel) rfl⟩
theorem kw_X2_41 : kwS RX2 41 yX2_spansOverlap cX2_spansOverlap 4 (some .boolean) := ⟨gm 413 (by decide +kernel) rfl, gm 414 (by decide +kernel) rfl, gm 415 (by decide +kernel) rfl, gm 18 (by decide +kernel) rfl⟩
theorem kw_X2_45 : kwV RX2 45 yX2_straddles cX2_straddles 5 (some .boolean) := ⟨gm 420 (by decide +kernel) rfl, gm 422 (by decide +kernel) rfl, gm 8 (by decide +kernel) rfl, gm 423 (by decide +kernel) rfl, gm 18 (by decide +kernel) rfl⟩
theorem kw_X2_48 : kwS RX2 48 yJ9_max_7cf53 cJ9_max_7cf53 2 (some .int) := ⟨gm 416 (by decide +kernel) rfl, gm 417 (by decide +kernel) rfl, gm 418 (by decide +kernel) rfl, gm 25 (by decide +kernel) rfl⟩
theorem kw_X2_51 : kwS RX2 51 yJ9_min_7cf53 cJ9_min_7cf53 2 (some .int) := ⟨gm 419 (by decide +kernel) rfl, gm 312 (by decide +kernel) rfl, gm 313 (by decide +kernel) rfl, gm 25 (by decide +kernel) rfl⟩
theorem kw_X2_54 : kwV RX2 54 yX2_sideOf cX2_sideOf 4 (some .int) := ⟨gm 424 (by decide +kernel) rfl, gm 426 (by decide +kernel) rfl, gm 9 (by decide +kernel) rfl, gm 427 (by decide +kernel) rfl, gm 18 (by decide +kernel) rfl⟩
theorem kw_X2_58 : kwS RX2 58 yJ6_compare_7cf53 cJ6_compare_7cf53 2 (some .int) := ⟨gm 428 (by decide +kernel) rfl, gm 429 (by decide +kernel) rfl, gm 430 (by decide +kernel) rfl, gm 32 (by decide +kernel) rfl⟩
theorem kw_X3_34 : kwS RX3 34 yJ9_min_7cf53 cJ9_min_7cf53 2 (some .int) := ⟨gm 311 (by decide +kernel) rfl, gm 312 (by decide +kernel) rfl, gm 313 (by decide +kernel) rfl, gm 25 (by decide +kernel) rfl⟩
theorem kw_X5_25 : kwS RX5 25 yX5_place cX5_place 2 (some .int) := ⟨gm 372 (by decide +kernel) rfl, gm 328 (by decide +kernel) rfl, gm 329 (by decide +kernel) rfl, gm 19 (by decide +kernel) rfl⟩
theorem kw_X5_29 : kwV RX5 29 yX5_hasStar cX5_hasStar 5 (some .boolean) := ⟨gm 397 (by decide +kernel) rfl, gm 399 (by decide +kernel) rfl, gm 6 (by decide +kernel) rfl, gm 400 (by decide +kernel) rfl, gm 19 (by decide +kernel) rfl⟩
theorem kw_X5_33 : kwV RX5 33 yX5_ownerOf cX5_ownerOf 3 (some .int) := ⟨gm 520 (by decide +kernel) rfl, gm 394 (by decide +kernel) rfl, gm 395 (by decide +kernel) rfl, gm 396 (by decide +kernel) rfl, gm 19 (by decide +kernel) rfl⟩
theorem kw_L_7 : kwV RL 7 yX6_draw cX6_draw 5 (some .int) := ⟨gm 505 (by decide +kernel) rfl, gm 506 (by decide +kernel) rfl, gm 507 (by decide +kernel) rfl, gm 508 (by decide +kernel) rfl, gm 17 (by decide +kernel) rfl⟩
theorem kw_L_17 : kwV RL 17 yX6_undo cX6_undo 1 (some .int) := ⟨gm 529 (by decide +kernel) rfl, gm 530 (by decide +kernel) rfl, gm 531 (by decide +kernel) rfl, gm 532 (by decide +kernel) rfl, gm 17 (by decide +kernel) rfl⟩
theorem kw_L_21 : kwV RL 21 yX6_plan cX6_plan 7 (some .int) := ⟨gm 545 (by decide +kernel) rfl, gm 546 (by decide +kernel) rfl, gm 547 (by decide +kernel) rfl, gm 548 (by decide +kernel) rfl, gm 17 (by decide +kernel) rfl⟩
theorem kw_L_27 : kwV RL 27 yX6_stars cX6_stars 1 (some .int) := ⟨gm 373 (by decide +kernel) rfl, gm 374 (by decide +kernel) rfl, gm 375 (by decide +kernel) rfl, gm 376 (by decide +kernel) rfl, gm 17 (by decide +kernel) rfl⟩
theorem kw_L_32 : kwV RL 32 yX6_placeOf cX6_placeOf 2 (some .int) := ⟨gm 385 (by decide +kernel) rfl, gm 386 (by decide +kernel) rfl, gm 387 (by decide +kernel) rfl, gm 388 (by decide +kernel) rfl, gm 17 (by decide +kernel) rfl⟩
theorem kw_L_38 : kwV RL 38 yX6_figureOf cX6_figureOf 2 (some .int) := ⟨gm 389 (by decide +kernel) rfl, gm 390 (by decide +kernel) rfl, gm 391 (by decide +kernel) rfl, gm 392 (by decide +kernel) rfl, gm 17 (by decide +kernel) rfl⟩
theorem kw_L_41 : kwV RL 41 yX6_figures cX6_figures 1 (some .int) := ⟨gm 377 (by decide +kernel) rfl, gm 378 (by decide +kernel) rfl, gm 379 (by decide +kernel) rfl, gm 380 (by decide +kernel) rfl, gm 17 (by decide +kernel) rfl⟩
theorem kw_L_44 : kwV RL 44 yX6_lines cX6_lines 2 (some .int) := ⟨gm 381 (by decide +kernel) rfl, gm 382 (by decide +kernel) rfl, gm 383 (by decide +kernel) rfl, gm 384 (by decide +kernel) rfl, gm 17 (by decide +kernel) rfl⟩
theorem kw_L_49 : kwV RL 49 yX6_crossings cX6_crossings 7 (some .int) := ⟨gm 401 (by decide +kernel) rfl, gm 402 (by decide +kernel) rfl, gm 403 (by decide +kernel) rfl, gm 404 (by decide +kernel) rfl, gm 17 (by decide +kernel) rfl⟩
theorem kw_L_53 : kwV RL 53 yX6_nameOf cX6_nameOf 2 (some .int) := ⟨gm 460 (by decide +kernel) rfl, gm 461 (by decide +kernel) rfl, gm 462 (by decide +kernel) rfl, gm 463 (by decide +kernel) rfl, gm 17 (by decide +kernel) rfl⟩
theorem kw_L_56 : kwV RL 56 yX6_votes cX6_votes 3 (some .int) := ⟨gm 456 (by decide +kernel) rfl, gm 457 (by decide +kernel) rfl, gm 458 (by decide +kernel) rfl, gm 459 (by decide +kernel) rfl, gm 17 (by decide +kernel) rfl⟩
theorem kw_L_59 : kwV RL 59 yX6_hours cX6_hours 6 (some .int) := ⟨gm 569 (by decide +kernel) rfl, gm 570 (by decide +kernel) rfl, gm 571 (by decide +kernel) rfl, gm 572 (by decide +kernel) rfl, gm 17 (by decide +kernel) rfl⟩
theorem kw_L_62 : kwV RL 62 yX6_bestHour cX6_bestHour 8 (some .int) := ⟨gm 487 (by decide +kernel) rfl, gm 488 (by decide +kernel) rfl, gm 489 (by decide +kernel) rfl, gm 490 (by decide +kernel) rfl, gm 17 (by decide +kernel) rfl⟩
theorem kw_L_65 : kwV RL 65 yX6_hoursByStars cX6_hoursByStars 8 (some .int) := ⟨gm 573 (by decide +kernel) rfl, gm 574 (by decide +kernel) rfl, gm 575 (by decide +kernel) rfl, gm 576 (by decide +kernel) rfl, gm 17 (by decide +kernel) rfl⟩
theorem kw_L_68 : kwV RL 68 yX6_isUp cX6_isUp 5 (some .boolean) := ⟨gm 464 (by decide +kernel) rfl, gm 465 (by decide +kernel) rfl, gm 466 (by decide +kernel) rfl, gm 467 (by decide +kernel) rfl, gm 17 (by decide +kernel) rfl⟩
theorem kw_L_72 : kwV RL 72 yX6_height cX6_height 5 (some .int) := ⟨gm 582 (by decide +kernel) rfl, gm 583 (by decide +kernel) rfl, gm 584 (by decide +kernel) rfl, gm 585 (by decide +kernel) rfl, gm 17 (by decide +kernel) rfl⟩
theorem kw_L_76 : kwV RL 76 yX6_wrong cX6_wrong 1 (some .int) := ⟨gm 496 (by decide +kernel) rfl, gm 497 (by decide +kernel) rfl, gm 498 (by decide +kernel) rfl, gm 499 (by decide +kernel) rfl, gm 17 (by decide +kernel) rfl⟩
theorem kw_L_82 : kwV RL 82 yX6_addStar cX6_addStar 3 (some .int) := ⟨gm 183 (by decide +kernel) rfl, gm 184 (by decide +kernel) rfl, gm 185 (by decide +kernel) rfl, gm 186 (by decide +kernel) rfl, gm 17 (by decide +kernel) rfl⟩
theorem kw_L_85 : kwV RL 85 yX6_addFigure cX6_addFigure 1 (some .int) := ⟨gm 349 (by decide +kernel) rfl, gm 350 (by decide +kernel) rfl, gm 351 (by decide +kernel) rfl, gm 352 (by decide +kernel) rfl, gm 17 (by decide +kernel) rfl⟩
theorem kw_L_88 : kwS RL 88 yL_print cL_print 4 (some .long) := ⟨gm 556 (by decide +kernel) rfl, gm 557 (by decide +kernel) rfl, gm 558 (by decide +kernel) rfl, gm 16 (by decide +kernel) rfl⟩
theorem kw_L_94 : kwV RL 94 yX6_correct cX6_correct 4 (some .int) := ⟨gm 283 (by decide +kernel) rfl, gm 284 (by decide +kernel) rfl, gm 285 (by decide +kernel) rfl, gm 286 (by decide +kernel) rfl, gm 17 (by decide +kernel) rfl⟩
theorem kw_L_101 : kwV RL 101 yX6_erase cX6_erase 4 (some .int) := ⟨gm 358 (by decide +kernel) rfl, gm 359 (by decide +kernel) rfl, gm 360 (by decide +kernel) rfl, gm 361 (by decide +kernel) rfl, gm 17 (by decide +kernel) rfl⟩
theorem kw_L_108 : kwV RL 108 yX6_vote cX6_vote 4 (some .int) := ⟨gm 431 (by decide +kernel) rfl, gm 432 (by decide +kernel) rfl, gm 433 (by decide +kernel) rfl, gm 434 (by decide +kernel) rfl, gm 17 (by decide +kernel) rfl⟩
theorem kw_L_115 : kwV RL 115 yX6_isWrong cX6_isWrong 2 (some .boolean) := ⟨gm 491 (by decide +kernel) rfl, gm 492 (by decide +kernel) rfl, gm 493 (by decide +kernel) rfl, gm 494 (by decide +kernel) rfl, gm 17 (by decide +kernel) rfl⟩
theorem kw_L_119 : kwS RL 119 yL_areNames cL_areNames 8 (some .boolean) := ⟨gm 563 (by decide +kernel) rfl, gm 564 (by decide +kernel) rfl, gm 565 (by decide +kernel) rfl, gm 16 (by decide +kernel) rfl⟩
theorem kw_L_123 : kwS RL 123 yL_areHours cL_areHours 13 (some .boolean) := ⟨gm 566 (by decide +kernel) rfl, gm 567 (by decide +kernel) rfl, gm 568 (by decide +kernel) rfl, gm 16 (by decide +kernel) rfl⟩
theorem ky_X6_needPlace : kyn yX6_needPlace 2 := ⟨by decide +kernel, by decide +kernel, by decide +kernel⟩
theorem ky_X2_append : kyn yX2_append 2 := ⟨by decide +kernel, by decide +kernel, by decide +kernel⟩
theorem ky_X6_needStar : kyn yX6_needStar 1 := ⟨by decide +kernel, by decide +kernel, by decide +kernel⟩
theorem ky_X3_keep : kyn yX3_keep 5 := ⟨by decide +kernel, by decide +kernel, by decide +kernel⟩
theorem ky_X2_move : kyn yX2_move 3 := ⟨by decide +kernel, by decide +kernel, by decide +kernel⟩
theorem ky_X6_countWrongShows : kyn yX6_countWrongShows 0 := ⟨by decide +kernel, by decide +kernel, by decide +kernel⟩
theorem ky_X5_appendFigure : kyn yX5_appendFigure 0 := ⟨by decide +kernel, by decide +kernel, by decide +kernel⟩
theorem ky_X6_needFigure : kyn yX6_needFigure 1 := ⟨by decide +kernel, by decide +kernel, by decide +kernel⟩
theorem ky_X5_joins : kyn yX5_joins 3 := ⟨by decide +kernel, by decide +kernel, by decide +kernel⟩
theorem ky_X5_isOfAnother : kyn yX5_isOfAnother 2 := ⟨by decide +kernel, by decide +kernel, by decide +kernel⟩
theorem ky_X5_insert : kyn yX5_insert 4 := ⟨by decide +kernel, by decide +kernel, by decide +kernel⟩
theorem ky_X5_place : kyn yX5_place 2 := ⟨by decide +kernel, by decide +kernel, by decide +kernel⟩
theorem ky_X5_remove : kyn yX5_remove 2 := ⟨by decide +kernel, by decide +kernel, by decide +kernel⟩
theorem ky_X3_stepBack : kyn yX3_stepBack 0 := ⟨by decide +kernel, by decide +kernel, by decide +kernel⟩
theorem ky_X6_takeBack : kyn yX6_takeBack 1 := ⟨by decide +kernel, by decide +kernel, by decide +kernel⟩
theorem ky_X5_ownerOf : kyn yX5_ownerOf 1 := ⟨by decide +kernel, by decide +kernel, by decide +kernel⟩
theorem ky_X6_linesCross : kyn yX6_linesCross 2 := ⟨by decide +kernel, by decide +kernel, by decide +kernel⟩
theorem ky_X6_needName : kyn yX6_needName 1 := ⟨by decide +kernel, by decide +kernel, by decide +kernel⟩
theorem ky_X1_replace : kyn yX1_replace 3 := ⟨by decide +kernel, by decide +kernel, by decide +kernel⟩
theorem ky_X6_needLatitude : kyn yX6_needLatitude 1 := ⟨by decide +kernel, by decide +kernel, by decide +kernel⟩
theorem ky_X6_needDay : kyn yX6_needDay 1 := ⟨by decide +kernel, by decide +kernel, by decide +kernel⟩
theorem ky_X6_needHour : kyn yX6_needHour 1 := ⟨by decide +kernel, by decide +kernel, by decide +kernel⟩
theorem ky_X6_skyTurn : kyn yX6_skyTurn 2 := ⟨by decide +kernel, by decide +kernel, by decide +kernel⟩
theorem ky_X2_heightAt : kyn yX2_heightAt 3 := ⟨by decide +kernel, by decide +kernel, by decide +kernel⟩
theorem ky_X6_figureIsUp : kyn yX6_figureIsUp 3 := ⟨by decide +kernel, by decide +kernel, by decide +kernel⟩
theorem ky_X6_hoursOfStar : kyn yX6_hoursOfStar 3 := ⟨by decide +kernel, by decide +kernel, by decide +kernel⟩
theorem ky_X6_lowestHeight : kyn yX6_lowestHeight 3 := ⟨by decide +kernel, by decide +kernel, by decide +kernel⟩
theorem ky_X4_append : kyn yX4_append 4 := ⟨by decide +kernel, by decide +kernel, by decide +kernel⟩
theorem ky_X6_showIsWrong : kyn yX6_showIsWrong 1 := ⟨by decide +kernel, by decide +kernel, by decide +kernel⟩
theorem ky_X2_meet : kyn yX2_meet 4 := ⟨by decide +kernel, by decide +kernel, by decide +kernel⟩
theorem ky_J9_min_7cf53 : kyn yJ9_min_7cf53 2 := ⟨by decide +kernel, by decide +kernel, by decide +kernel⟩
theorem ky_J9_floorMod_7cf53 : kyn yJ9_floorMod_7cf53 2 := ⟨by decide +kernel, by decide +kernel, by decide +kernel⟩
theorem ky_X0_sine : kyn yX0_sine 1 := ⟨by decide +kernel, by decide +kernel, by decide +kernel⟩
theorem ky_J7_fill_53178 : kyn yJ7_fill_53178 2 := ⟨by decide +kernel, by decide +kernel, by decide +kernel⟩
theorem ky_X1_count : kyn yX1_count 3 := ⟨by decide +kernel, by decide +kernel, by decide +kernel⟩
theorem ky_X1_giveNames : kyn yX1_giveNames 0 := ⟨by decide +kernel, by decide +kernel, by decide +kernel⟩
theorem ky_X1_giveName : kyn yX1_giveName 3 := ⟨by decide +kernel, by decide +kernel, by decide +kernel⟩
theorem ky_X0_cosine : kyn yX0_cosine 1 := ⟨by decide +kernel, by decide +kernel, by decide +kernel⟩
theorem ky_J9_floorDiv_7cf53 : kyn yJ9_floorDiv_7cf53 2 := ⟨by decide +kernel, by decide +kernel, by decide +kernel⟩
theorem ky_X2_spansOverlap : kyn yX2_spansOverlap 4 := ⟨by decide +kernel, by decide +kernel, by decide +kernel⟩
theorem ky_X2_straddles : kyn yX2_straddles 4 := ⟨by decide +kernel, by decide +kernel, by decide +kernel⟩
theorem ky_J9_max_7cf53 : kyn yJ9_max_7cf53 2 := ⟨by decide +kernel, by decide +kernel, by decide +kernel⟩
theorem ky_X2_sideOf : kyn yX2_sideOf 3 := ⟨by decide +kernel, by decide +kernel, by decide +kernel⟩
theorem ky_J6_compare_7cf53 : kyn yJ6_compare_7cf53 2 := ⟨by decide +kernel, by decide +kernel, by decide +kernel⟩
theorem ky_X5_hasStar : kyn yX5_hasStar 2 := ⟨by decide +kernel, by decide +kernel, by decide +kernel⟩
theorem ky_X6_draw : kyn yX6_draw 3 := ⟨by decide +kernel, by decide +kernel, by decide +kernel⟩
theorem ky_X6_undo : kyn yX6_undo 0 := ⟨by decide +kernel, by decide +kernel, by decide +kernel⟩
theorem ky_X6_plan : kyn yX6_plan 4 := ⟨by decide +kernel, by decide +kernel, by decide +kernel⟩
theorem ky_X6_stars : kyn yX6_stars 0 := ⟨by decide +kernel, by decide +kernel, by decide +kernel⟩
theorem ky_X6_placeOf : kyn yX6_placeOf 1 := ⟨by decide +kernel, by decide +kernel, by decide +kernel⟩
theorem ky_X6_figureOf : kyn yX6_figureOf 1 := ⟨by decide +kernel, by decide +kernel, by decide +kernel⟩
theorem ky_X6_figures : kyn yX6_figures 0 := ⟨by decide +kernel, by decide +kernel, by decide +kernel⟩
theorem ky_X6_lines : kyn yX6_lines 1 := ⟨by decide +kernel, by decide +kernel, by decide +kernel⟩
theorem ky_X6_crossings : kyn yX6_crossings 2 := ⟨by decide +kernel, by decide +kernel, by decide +kernel⟩
theorem ky_X6_nameOf : kyn yX6_nameOf 1 := ⟨by decide +kernel, by decide +kernel, by decide +kernel⟩
theorem ky_X6_votes : kyn yX6_votes 2 := ⟨by decide +kernel, by decide +kernel, by decide +kernel⟩
theorem ky_X6_hours : kyn yX6_hours 3 := ⟨by decide +kernel, by decide +kernel, by decide +kernel⟩
theorem ky_X6_bestHour : kyn yX6_bestHour 3 := ⟨by decide +kernel, by decide +kernel, by decide +kernel⟩
theorem ky_X6_hoursByStars : kyn yX6_hoursByStars 3 := ⟨by decide +kernel, by decide +kernel, by decide +kernel⟩
theorem ky_X6_isUp : kyn yX6_isUp 4 := ⟨by decide +kernel, by decide +kernel, by decide +kernel⟩
theorem ky_X6_height : kyn yX6_height 4 := ⟨by decide +kernel, by decide +kernel, by decide +kernel⟩
theorem ky_X6_wrong : kyn yX6_wrong 0 := ⟨by decide +kernel, by decide +kernel, by decide +kernel⟩
theorem ky_X6_addStar : kyn yX6_addStar 2 := ⟨by decide +kernel, by decide +kernel, by decide +kernel⟩
theorem ky_X6_addFigure : kyn yX6_addFigure 0 := ⟨by decide +kernel, by decide +kernel, by decide +kernel⟩
theorem ky_L_print : kyn yL_print 1 := ⟨by decide +kernel, by decide +kernel, by decide +kernel⟩
theorem ky_X6_correct : kyn yX6_correct 3 := ⟨by decide +kernel, by decide +kernel, by decide +kernel⟩
theorem ky_L_draws : kyn yL_draws 4 := ⟨by decide +kernel, by decide +kernel, by decide +kernel⟩
theorem ky_X6_erase : kyn yX6_erase 2 := ⟨by decide +kernel, by decide +kernel, by decide +kernel⟩
theorem ky_L_undoes : kyn yL_undoes 1 := ⟨by decide +kernel, by decide +kernel, by decide +kernel⟩
theorem ky_X6_vote : kyn yX6_vote 3 := ⟨by decide +kernel, by decide +kernel, by decide +kernel⟩
theorem ky_L_plans : kyn yL_plans 5 := ⟨by decide +kernel, by decide +kernel, by decide +kernel⟩
theorem ky_X6_isWrong : kyn yX6_isWrong 1 := ⟨by decide +kernel, by decide +kernel, by decide +kernel⟩
theorem ky_L_areNames : kyn yL_areNames 1 := ⟨by decide +kernel, by decide +kernel, by decide +kernel⟩
theorem ky_L_areHours : kyn yL_areHours 5 := ⟨by decide +kernel, by decide +kernel, by decide +kernel⟩
end
section
/-! ===== more rows; the throws' words; whole-number facts ===== -/
section RX
variable {p : Program} {l : Launch} {e : Env} {R : Room} {s : State} {m : MethodId} {args : Array Value} {below : List Frame} {meth : Method} {c : Code} {H : Heap} {locs : List Loc} {cells slots : Nat} {Q : State → Prop}
variable {g : gT} {own : String} {cc : ByteArray} {nL : Nat} {S S' : gSt} {pc : Nat} {ls : Array Slot} {rest : List Value}
variable {index n maxL fr lo : Nat} {y : MethodName} {bytes : ByteArray} {ret : Option FieldType} {As : List Value} {stk : List Value} {v : Option Value} {b : Nat}
theorem bi_ldc {own : String} {index : Nat} {n : Int} (hx : p.tables.exec = Jvm.exec) (hb : c.code = cc) (hown : s.vm.findClass own = some m.cls) (hconst : (Jvm.Cond.constant own index (iI n)).before args s = true) (hdg : decode cc pc = .ok (.ldc index, 2))
    (k : W p l e R s m args below meth c H locs cells slots Q (F0 m (pc + 2) ls (.int (iI n) :: rest))) : W p l e R s m args below meth c H locs cells slots Q (F0 m pc ls rest) := lv_ldc hx hb hown hconst hdg k
theorem cvI {r : Int} (C0 : Ct p s m args c g own cc nL) (hH : Hp g S s H locs) (hM : MetG l g y bytes maxL ret fr lo (.ref b :: As) S (some (.int (iI r))) S') (hw : kwV own index y bytes maxL ret) (hy : kyn y n) (hR : fr + 1 ≤ R.frames ∧ 8 + (maxL + 11) + lo ≤ R.locals) (hcs : cells ≤ R.cells ∧ slots ≤ R.slots)
    (k : Nat) {ci N : Nat} {T : u_T} {fs : List Value} (he : (Wl g S)[k]? = some (b, .inr (ci, fs))) (hc : vwCl[ci]? = some (y.cls, T, N)) (hn : As.length = n) (hsz : ls.size = nL) (hst : stk = As.reverse ++ .ref b :: rest) (hrest : (rest.map fun v => v.category).sum ≤ 8) (hdg : decode cc pc = .ok (.invokevirtual index, 3))
    (kk : ∀ (H1 : Heap) (locs1 : List Loc), Hp g S' s H1 locs1 → W p l e R s m args below meth c H1 locs1 cells slots Q (F0 m (pc + 3) ls (.int (iI r) :: rest))) : W p l e R s m args below meth c H locs cells slots Q (F0 m pc ls stk) :=
  cvG C0 hH hM hw hy hR hcs k he hc hn hsz hst hrest hdg kk
theorem cvN (C0 : Ct p s m args c g own cc nL) (hH : Hp g S s H locs) (hM : MetG l g y bytes maxL ret fr lo (.ref b :: As) S none S') (hw : kwV own index y bytes maxL ret) (hy : kyn y n) (hR : fr + 1 ≤ R.frames ∧ 8 + (maxL + 11) + lo ≤ R.locals) (hcs : cells ≤ R.cells ∧ slots ≤ R.slots)
    (k : Nat) {ci N : Nat} {T : u_T} {fs : List Value} (he : (Wl g S)[k]? = some (b, .inr (ci, fs))) (hc : vwCl[ci]? = some (y.cls, T, N)) (hn : As.length = n) (hsz : ls.size = nL) (hst : stk = As.reverse ++ .ref b :: rest) (hrest : (rest.map fun v => v.category).sum ≤ 8) (hdg : decode cc pc = .ok (.invokevirtual index, 3))
    (kk : ∀ (H1 : Heap) (locs1 : List Loc), Hp g S' s H1 locs1 → W p l e R s m args below meth c H1 locs1 cells slots Q (F0 m (pc + 3) ls rest)) : W p l e R s m args below meth c H locs cells slots Q (F0 m pc ls stk) :=
  cvG C0 hH hM hw hy hR hcs k he hc hn hsz hst hrest hdg kk
theorem csI {r : Int} (C0 : Ct p s m args c g own cc nL) (hH : Hp g S s H locs) (hM : MetG l g y bytes maxL ret fr lo As S (some (.int (iI r))) S') (hw : kwS own index y bytes maxL ret) (hy : kyn y n) (hR : fr + 1 ≤ R.frames ∧ 8 + (maxL + 11) + lo ≤ R.locals) (hcs : cells ≤ R.cells ∧ slots ≤ R.slots)
    (hn : As.length = n) (hsz : ls.size = nL) (hst : stk = As.reverse ++ rest) (hrest : (rest.map fun v => v.category).sum ≤ 8) (hdg : decode cc pc = .ok (.invokestatic index, 3))
    (kk : ∀ (H1 : Heap) (locs1 : List Loc), Hp g S' s H1 locs1 → W p l e R s m args below meth c H1 locs1 cells slots Q (F0 m (pc + 3) ls (.int (iI r) :: rest))) : W p l e R s m args below meth c H locs cells slots Q (F0 m pc ls stk) :=
  csG C0 hH hM hw hy hR hcs hn hsz hst hrest hdg kk
theorem csN (C0 : Ct p s m args c g own cc nL) (hH : Hp g S s H locs) (hM : MetG l g y bytes maxL ret fr lo As S none S') (hw : kwS own index y bytes maxL ret) (hy : kyn y n) (hR : fr + 1 ≤ R.frames ∧ 8 + (maxL + 11) + lo ≤ R.locals) (hcs : cells ≤ R.cells ∧ slots ≤ R.slots)
    (hn : As.length = n) (hsz : ls.size = nL) (hst : stk = As.reverse ++ rest) (hrest : (rest.map fun v => v.category).sum ≤ 8) (hdg : decode cc pc = .ok (.invokestatic index, 3))
    (kk : ∀ (H1 : Heap) (locs1 : List Loc), Hp g S' s H1 locs1 → W p l e R s m args below meth c H1 locs1 cells slots Q (F0 m (pc + 3) ls rest)) : W p l e R s m args below meth c H locs cells slots Q (F0 m pc ls stk) :=
  csG C0 hH hM hw hy hR hcs hn hsz hst hrest hdg kk
theorem xor_neg {a b : Int} (ra : rg a) (rb : rg b) (h : 0 ≤ b) : (0 : Int32) ≤ iI a ^^^ iI b ↔ 0 ≤ a := by
  have e : ∀ x : Int32, (0 : Int32) ≤ x ↔ x.toBitVec.msb = false := fun x => by
    rw [Int32.le_iff_toInt_le, BitVec.msb_eq_toInt]
    show (0 : Int) ≤ x.toBitVec.toInt ↔ _
    simp
  have ea : (iI a).toBitVec.msb = decide (a < 0) := by
    rw [BitVec.msb_eq_toInt]
    show decide ((iI a).toInt < 0) = _
    rw [iI_t ra]
  have eb : (iI b).toBitVec.msb = false := by
    rw [BitVec.msb_eq_toInt]
    show decide ((iI b).toInt < 0) = _
    rw [iI_t rb]
    simp
    exact h
  rw [e, Int32.toBitVec_xor, BitVec.msb_xor, ea, eb]
  simp
theorem bx_xorge (hx : p.tables.exec = Jvm.exec) (hb : c.code = cc) {a b off : Int} {tgt : Nat} (d1 : decode cc pc = .ok (.ixor, 1)) (d2 : decode cc (pc + 1) = .ok (.ifCond .ge off, 3)) (ht : ((pc + 1 : Nat) : Int) + off = (tgt : Int)) (ra : rg a) (rb : rg b) (h0 : 0 ≤ b)
    (kt : 0 ≤ a → W p l e R s m args below meth c H locs cells slots Q (F0 m tgt ls rest)) (kf : a < 0 → W p l e R s m args below meth c H locs cells slots Q (F0 m (pc + 1 + 3) ls rest)) : W p l e R s m args below meth c H locs cells slots Q (F0 m pc ls (.int (iI b) :: .int (iI a) :: rest)) :=
  lv_ixor hx hb d1 (lv_if_ge hx hb d2 ht (fun h => kt ((xor_neg ra rb h0).mp h)) (fun h => kf (Int.not_le.mp (fun q => h ((xor_neg ra rb h0).mpr q)))))
end RX
theorem bI_b (b : Bool) : (if b = true then (1 : Int) else 0) = 0 ∨ (if b = true then (1 : Int) else 0) = 1 := by cases b <;> simp
theorem td_p {a b : Int} (h : 0 ≤ a) : a.tdiv b = a / b := Int.tdiv_eq_ediv_of_nonneg h
theorem td_n {a b : Int} (h : a ≤ 0) : a.tdiv b = -((-a) / b) := by
  have h1 : ((-a) : Int).tdiv b = (-a) / b := td_p (by omega)
  rw [Int.neg_tdiv] at h1
  omega
theorem tm_p {a b : Int} (h : 0 ≤ a) : a.tmod b = a % b := Int.tmod_eq_emod_of_nonneg h
theorem tm_n {a b : Int} (h : a ≤ 0) : a.tmod b = -((-a) % b) := by
  have h1 : ((-a) : Int).tmod b = (-a) % b := tm_p (by omega)
  rw [Int.neg_tmod] at h1
  omega
/-- the sine in thousandths, the cosine, the height -/
def sh (h : Int) : Int := 4000 * (h * (180 - h)) / (40500 - h * (180 - h))
def sn (a : Int) : Int := if a % 360 < 180 then sh (a % 360 % 180) else -sh (a % 360 % 180)
def cs (a : Int) : Int := sn (a + 90)
def hg (lat up t : Int) : Int := (sn lat * sn up + cs lat * cs up * cs t / 1000) / 1000
theorem prod_b {h : Int} (h0 : 0 ≤ h) (h1 : h < 180) : 0 ≤ h * (180 - h) ∧ h * (180 - h) ≤ 8100 := by
  have : ∀ n : Nat, n < 180 → 0 ≤ (n : Int) * (180 - (n : Int)) ∧ (n : Int) * (180 - (n : Int)) ≤ 8100 := by decide +kernel
  have h2 := this h.toNat (by omega)
  rw [Int.toNat_of_nonneg h0] at h2
  exact h2
theorem sh_b {h : Int} (h0 : 0 ≤ h) (h1 : h < 180) : 0 ≤ sh h ∧ sh h ≤ 1000 := by
  have : ∀ n : Nat, n < 180 → 0 ≤ sh (n : Int) ∧ sh (n : Int) ≤ 1000 := by decide +kernel
  have h2 := this h.toNat (by omega)
  rw [Int.toNat_of_nonneg h0] at h2
  exact h2
theorem sn_b (a : Int) : -1000 ≤ sn a ∧ sn a ≤ 1000 := by
  have := sh_b (h := a % 360 % 180) (by omega) (by omega)
  unfold sn
  split <;> omega
theorem cs_b (a : Int) : -1000 ≤ cs a ∧ cs a ≤ 1000 := sn_b _
theorem mul_b {a b A B : Int} (ha : -A ≤ a ∧ a ≤ A) (hb : -B ≤ b ∧ b ≤ B) (hA : 0 ≤ A) (hB : 0 ≤ B) : -(A * B) ≤ a * b ∧ a * b ≤ A * B := by
  have h1 : (a * b).natAbs ≤ (A * B).natAbs := by
    rw [Int.natAbs_mul, Int.natAbs_mul]
    exact Nat.mul_le_mul (by omega) (by omega)
  have h2 : 0 ≤ A * B := Int.mul_nonneg hA hB
  omega
theorem atg_ISE : ∀ w ∈ (vx_atS "SkyLoom" 56 "java/lang/IllegalStateException" ["java/lang/RuntimeException", "java/lang/Exception"]).filter goodWord, w ∈ lw_tbl := by decide +kernel
theorem atn_ISE : ∀ w ∈ (vx_atS "SkyLoom" 56 "java/lang/IllegalStateException" ["java/lang/RuntimeException", "java/lang/Exception"]).filter (fun w => !goodWord w), w ∈ lw_tbl ∧ isNest w = true := by decide +kernel
theorem atS_ISE {g : gT} {s : State} {args : Array Value} (h : GG g s) : ∀ w ∈ vx_atS "SkyLoom" 56 "java/lang/IllegalStateException" ["java/lang/RuntimeException", "java/lang/Exception"], w.before args s = true := vx_hat (B := NL) (fun w hw => h.w (List.mem_filter.mpr ⟨atg_ISE w hw, (List.mem_filter.mp hw).2⟩)) (fun w hw => List.mem_filter.mpr (atn_ISE w hw)) (fun w hw => h.n hw)
theorem gdS_ISE : ∀ w ∈ Cond.classLink "SkyLoom" 52 "java/lang/IllegalStateException" :: Cond.initialized "java/lang/IllegalStateException" :: vx_atS "SkyLoom" 56 "java/lang/IllegalStateException" ["java/lang/RuntimeException", "java/lang/Exception"], vx_ot w = true := by decide +kernel
theorem atg_IAE : ∀ w ∈ (vx_atS "SkyLoom" 101 "java/lang/IllegalArgumentException" ["java/lang/RuntimeException", "java/lang/Exception"]).filter goodWord, w ∈ lw_tbl := by decide +kernel
theorem atn_IAE : ∀ w ∈ (vx_atS "SkyLoom" 101 "java/lang/IllegalArgumentException" ["java/lang/RuntimeException", "java/lang/Exception"]).filter (fun w => !goodWord w), w ∈ lw_tbl ∧ isNest w = true := by decide +kernel
theorem atS_IAE {g : gT} {s : State} {args : Array Value} (h : GG g s) : ∀ w ∈ vx_atS "SkyLoom" 101 "java/lang/IllegalArgumentException" ["java/lang/RuntimeException", "java/lang/Exception"], w.before args s = true := vx_hat (B := NL) (fun w hw => h.w (List.mem_filter.mpr ⟨atg_IAE w hw, (List.mem_filter.mp hw).2⟩)) (fun w hw => List.mem_filter.mpr (atn_IAE w hw)) (fun w hw => h.n hw)
theorem gdS_IAE : ∀ w ∈ Cond.classLink "SkyLoom" 97 "java/lang/IllegalArgumentException" :: Cond.initialized "java/lang/IllegalArgumentException" :: vx_atS "SkyLoom" 101 "java/lang/IllegalArgumentException" ["java/lang/RuntimeException", "java/lang/Exception"], vx_ot w = true := by decide +kernel
theorem atg_IOE : ∀ w ∈ (vx_atS "SkyLoom" 127 "java/lang/IndexOutOfBoundsException" ["java/lang/RuntimeException", "java/lang/Exception"]).filter goodWord, w ∈ lw_tbl := by decide +kernel
theorem atn_IOE : ∀ w ∈ (vx_atS "SkyLoom" 127 "java/lang/IndexOutOfBoundsException" ["java/lang/RuntimeException", "java/lang/Exception"]).filter (fun w => !goodWord w), w ∈ lw_tbl ∧ isNest w = true := by decide +kernel
theorem atS_IOE {g : gT} {s : State} {args : Array Value} (h : GG g s) : ∀ w ∈ vx_atS "SkyLoom" 127 "java/lang/IndexOutOfBoundsException" ["java/lang/RuntimeException", "java/lang/Exception"], w.before args s = true := vx_hat (B := NL) (fun w hw => h.w (List.mem_filter.mpr ⟨atg_IOE w hw, (List.mem_filter.mp hw).2⟩)) (fun w hw => List.mem_filter.mpr (atn_IOE w hw)) (fun w hw => h.n hw)
theorem gdS_IOE : ∀ w ∈ Cond.classLink "SkyLoom" 123 "java/lang/IndexOutOfBoundsException" :: Cond.initialized "java/lang/IndexOutOfBoundsException" :: vx_atS "SkyLoom" 127 "java/lang/IndexOutOfBoundsException" ["java/lang/RuntimeException", "java/lang/Exception"], vx_ot w = true := by decide +kernel
end
section
/-! ===== loops as functions ===== -/
def lpF {α : Type} (f : Int → α → α) : Nat → Int → α → α
  | 0, _, a => a
  | k + 1, i, a => lpF f k (i + 1) (f i a)
theorem lpF_e {α : Type} {f : Int → α → α} {n i : Int} {a : α} (h : n ≤ i) : lpF f (n - i).toNat i a = a := by
  rw [show (n - i).toNat = 0 by omega]; rfl
theorem lpF_s {α : Type} {f : Int → α → α} {n i : Int} {a : α} (h : i < n) : lpF f (n - i).toNat i a = lpF f (n - (i + 1)).toNat (i + 1) (f i a) := by
  rw [show (n - i).toNat = (n - (i + 1)).toNat + 1 by omega]; rfl
def exF (p : Int → Bool) : Nat → Int → Bool
  | 0, _ => false
  | k + 1, i => p i || exF p k (i + 1)
theorem exF_e {p : Int → Bool} {n i : Int} (h : n ≤ i) : exF p (n - i).toNat i = false := by
  rw [show (n - i).toNat = 0 by omega]; rfl
theorem exF_s {p : Int → Bool} {n i : Int} (h : i < n) : exF p (n - i).toNat i = (p i || exF p (n - (i + 1)).toNat (i + 1)) := by
  rw [show (n - i).toNat = (n - (i + 1)).toNat + 1 by omega]; rfl
def fdF (p : Int → Bool) : Nat → Int → Int
  | 0, _ => -1
  | k + 1, i => if p i = true then i else fdF p k (i + 1)
theorem fdF_e {p : Int → Bool} {n i : Int} (h : n ≤ i) : fdF p (n - i).toNat i = -1 := by
  rw [show (n - i).toNat = 0 by omega]; rfl
theorem fdF_s {p : Int → Bool} {n i : Int} (h : i < n) : fdF p (n - i).toNat i = if p i = true then i else fdF p (n - (i + 1)).toNat (i + 1) := by
  rw [show (n - i).toNat = (n - (i + 1)).toNat + 1 by omega]; rfl
/-- places in range; lines in range -/
def okC (a u : Int → Int) : Prop := ∀ i : Int, 0 ≤ i → i < 24 → 0 ≤ a i ∧ a i < 360 ∧ -90 ≤ u i ∧ u i ≤ 90
def okN (n : Int → Int) : Prop := ∀ f : Int, 0 ≤ f → f < 8 → 0 ≤ n f ∧ n f ≤ 10
def okE (n e : Int → Int) : Prop := ∀ f k : Int, 0 ≤ f → f < 8 → 0 ≤ k → k < n f → 0 ≤ e (10 * f + k) ∧ e (10 * f + k) < 24
end
section
theorem exF_e2 {p : Int → Bool} {n i j : Int} (h : n ≤ i) : exF p (n - i).toNat j = false := by
  rw [show (n - i).toNat = 0 by omega]; rfl
theorem exF_t {p : Int → Bool} {n i j : Int} (h : i < n) (hp : p j = false) : exF p (n - i).toNat j = exF p (n - (i + 1)).toNat (j + 1) := by
  rw [show (n - i).toNat = (n - (i + 1)).toNat + 1 by omega]
  show (p j || _) = _
  rw [hp]; rfl
theorem exF_f {p : Int → Bool} {n i j : Int} (h : i < n) (hp : p j = true) : exF p (n - i).toNat j = true := by
  rw [show (n - i).toNat = (n - (i + 1)).toNat + 1 by omega]
  show (p j || _) = _
  rw [hp]; rfl
theorem fdF_t {p : Int → Bool} {n i : Int} (h : i < n) (hp : p i = false) : fdF p (n - i).toNat i = fdF p (n - (i + 1)).toNat (i + 1) := by
  rw [fdF_s h, hp]; rfl
theorem fdF_f {p : Int → Bool} {n i : Int} (h : i < n) (hp : p i = true) : fdF p (n - i).toNat i = i := by
  rw [fdF_s h, hp]; rfl
theorem fdF_b {p : Int → Bool} : ∀ (k : Nat) (i : Int), 0 ≤ i → (fdF p k i = -1 ∨ (i ≤ fdF p k i ∧ fdF p k i < i + k))
  | 0, _, _ => Or.inl rfl
  | k + 1, i, h => by
    show (if p i = true then i else fdF p k (i + 1)) = -1 ∨ (i ≤ (if p i = true then i else fdF p k (i + 1)) ∧ (if p i = true then i else fdF p k (i + 1)) < i + ((k + 1 : Nat) : Int))
    split
    · omega
    · rcases fdF_b k (i + 1) (by omega) with h1 | h1
      · exact Or.inl h1
      · omega
theorem lpF_e2 {α : Type} {f : Int → α → α} {n i j : Int} {a : α} (h : n ≤ i) : lpF f (n - i).toNat j a = a := by
  rw [show (n - i).toNat = 0 by omega]; rfl
theorem lpF_s2 {α : Type} {f : Int → α → α} {n i j : Int} {a : α} (h : i < n) : lpF f (n - i).toNat j a = lpF f (n - (i + 1)).toNat (j + 1) (f j a) := by
  rw [show (n - i).toNat = (n - (i + 1)).toNat + 1 by omega]; rfl
theorem b0 {b : Bool} (h : (if b = true then (1 : Int) else 0) = 0) : b = false := by cases b <;> simp at h ⊢
theorem b1 {b : Bool} (h : (if b = true then (1 : Int) else 0) ≠ 0) : b = true := by cases b <;> simp at h ⊢
theorem brg (b : Bool) : 0 ≤ (if b = true then (1 : Int) else 0) ∧ (if b = true then (1 : Int) else 0) ≤ 1 := by cases b <;> simp
theorem prg (p : Prop) [Decidable p] : 0 ≤ (if p then (1 : Int) else 0) ∧ (if p then (1 : Int) else 0) ≤ 1 := by split <;> simp
/-! ===== a whole array of the store ===== -/
def sA (S : gSt) (k : Nat) (F : Int → Int) : gSt := fun a => if a = k then F else S a
theorem sA_s (S : gSt) (k : Nat) (F : Int → Int) : sA S k F k = F := if_pos rfl
theorem sA_n {S : gSt} {k a : Nat} {F : Int → Int} (h : a ≠ k) : sA S k F a = S a := if_neg h
theorem sA_id (S : gSt) (k : Nat) : sA S k (S k) = S := by
  funext a; unfold sA; split
  · next h => rw [h]
  · rfl
theorem st_sA (S : gSt) (k : Nat) (j v : Int) : st S k j v = sA S k (ud (S k) j v) := by
  funext a; unfold st sA; split
  · next h => rw [h]
  · rfl
theorem sA_sA (S : gSt) (k : Nat) (F G : Int → Int) : sA (sA S k F) k G = sA S k G := by
  funext a; unfold sA; split <;> rfl
theorem sA_c {S : gSt} {k m : Nat} {F G : Int → Int} (h : k ≠ m) : sA (sA S k F) m G = sA (sA S m G) k F := by
  funext a; unfold sA
  by_cases h1 : a = k
  · subst h1; rw [if_neg h, if_pos rfl, if_pos rfl]
  · by_cases h2 : a = m
    · subst h2; rw [if_pos rfl, if_neg h1, if_pos rfl]
    · rw [if_neg h2, if_neg h1, if_neg h1, if_neg h2]
theorem hp_eq {g : gT} {S S' : gSt} {s : State} {H : Heap} {locs : List Loc} (h : S = S') (hH : Hp g S s H locs) : Hp g S' s H locs := h ▸ hH
/-! ===== lines: who has a star, which joins, the shifts ===== -/
def hsQ (e o : Int → Int) (z : Int) : Int → Bool := fun j => decide (e j = z) || decide (o j = z)
def hsB (n e o : Int → Int) (f z : Int) : Bool := exF (hsQ e o z) (n f).toNat (10 * f)
def jnQ (e o : Int → Int) (a b : Int) : Int → Bool := fun j => (decide (e j = a) && decide (o j = b)) || (decide (e j = b) && decide (o j = a))
def jnB (n e o : Int → Int) (f a b : Int) : Bool := exF (jnQ e o a b) (n f).toNat (10 * f)
def owI (nf : Int) (n e o : Int → Int) (z : Int) : Int := fdF (fun f => hsB n e o f z) nf.toNat 0
theorem owI_b {nf : Int} {n e o : Int → Int} {z : Int} (h : 0 ≤ nf) : owI nf n e o z = -1 ∨ (0 ≤ owI nf n e o z ∧ owI nf n e o z < nf) := by
  have := fdF_b (p := fun f => hsB n e o f z) nf.toNat 0 (by omega)
  unfold owI
  omega
def shA (E : Int → Int) (j q : Int) : Int → Int := fun b => if j < b ∧ b ≤ q then E (b - 1) else E b
def insA (E : Int → Int) (p q v : Int) : Int → Int := ud (shA E p q) p v
def delA (E : Int → Int) (p q : Int) : Int → Int := fun b => if p ≤ b ∧ b < q then E (b + 1) else E b
theorem shA_0 (E : Int → Int) (q : Int) : shA E q q = E := by
  funext b; unfold shA; rw [if_neg (by omega)]
theorem shA_s (E : Int → Int) {j q : Int} (h : j ≤ q) : ud (shA E j q) j (shA E j q (j - 1)) = shA E (j - 1) q := by
  funext b
  unfold ud shA
  by_cases h1 : b = j
  · subst h1
    rw [if_pos rfl, if_neg (by omega), if_pos (by omega)]
  · rw [if_neg h1]
    by_cases h2 : j < b ∧ b ≤ q
    · rw [if_pos h2, if_pos (by omega)]
    · rw [if_neg h2, if_neg (by omega)]
theorem delA_0 (E : Int → Int) (p : Int) : delA E p p = E := by
  funext b; unfold delA; rw [if_neg (by omega)]
theorem delA_s (E : Int → Int) {p j : Int} (h : p ≤ j) : ud (delA E p j) j (delA E p j (j + 1)) = delA E p (j + 1) := by
  funext b
  unfold ud delA
  by_cases h1 : b = j
  · subst h1
    rw [if_pos rfl, if_neg (by omega), if_pos (by omega)]
  · rw [if_neg h1]
    by_cases h2 : p ≤ b ∧ b < j
    · rw [if_pos h2, if_pos (by omega)]
    · rw [if_neg h2, if_neg (by omega)]
/-- two arrays at once -/
def s2 (S : gSt) (c1 c2 : Nat) (F G : Int → Int) : gSt := sA (sA S c1 F) c2 G
theorem s2_1 {S : gSt} {c1 c2 : Nat} {F G : Int → Int} (h : c1 ≠ c2) : s2 S c1 c2 F G c1 = F := by unfold s2; rw [sA_n h, sA_s]
theorem s2_2 {S : gSt} {c1 c2 : Nat} {F G : Int → Int} : s2 S c1 c2 F G c2 = G := sA_s _ _ _
theorem s2_id (S : gSt) (c1 c2 : Nat) (h : c1 ≠ c2) : s2 S c1 c2 (S c1) (S c2) = S := by unfold s2; rw [sA_id, sA_id]
theorem s2_st1 {S : gSt} {c1 c2 : Nat} {F G : Int → Int} (h : c1 ≠ c2) (j v : Int) : st (s2 S c1 c2 F G) c1 j v = s2 S c1 c2 (ud F j v) G := by
  rw [st_sA, s2_1 h]; unfold s2; rw [sA_c (Ne.symm h), sA_sA]
theorem s2_st2 {S : gSt} {c1 c2 : Nat} {F G : Int → Int} (j v : Int) : st (s2 S c1 c2 F G) c2 j v = s2 S c1 c2 F (ud G j v) := by
  rw [st_sA, s2_2]; unfold s2; rw [sA_sA]
theorem sh_step {S : gSt} {c1 c2 : Nat} (h : c1 ≠ c2) (E O : Int → Int) {j q : Int} (hj : j ≤ q) :
    st (st (s2 S c1 c2 (shA E j q) (shA O j q)) c1 j (s2 S c1 c2 (shA E j q) (shA O j q) c1 (j - 1))) c2 j (st (s2 S c1 c2 (shA E j q) (shA O j q)) c1 j (s2 S c1 c2 (shA E j q) (shA O j q) c1 (j - 1)) c2 (j - 1)) = s2 S c1 c2 (shA E (j - 1) q) (shA O (j - 1) q) := by
  rw [s2_1 h, s2_st1 h, shA_s E hj, s2_2, s2_st2, shA_s O hj]
theorem del_step {S : gSt} {c1 c2 : Nat} (h : c1 ≠ c2) (E O : Int → Int) {p j : Int} (hj : p ≤ j) :
    st (st (s2 S c1 c2 (delA E p j) (delA O p j)) c1 j (s2 S c1 c2 (delA E p j) (delA O p j) c1 (j + 1))) c2 j (st (s2 S c1 c2 (delA E p j) (delA O p j)) c1 j (s2 S c1 c2 (delA E p j) (delA O p j) c1 (j + 1)) c2 (j + 1)) = s2 S c1 c2 (delA E p (j + 1)) (delA O p (j + 1)) := by
  rw [s2_1 h, s2_st1 h, delA_s E hj, s2_2, s2_st2, delA_s O hj]
/-- a line put in; a line taken out -/
def lnIn (S : gSt) (cn c1 c2 : Nat) (f k a b : Int) : gSt := st (s2 S c1 c2 (insA (S c1) (10 * f + k) (10 * f + S cn f) a) (insA (S c2) (10 * f + k) (10 * f + S cn f) b)) cn f (S cn f + 1)
def lnOut (S : gSt) (cn c1 c2 : Nat) (f k : Int) : gSt := st (s2 S c1 c2 (delA (S c1) (10 * f + k) (10 * f + S cn f - 1)) (delA (S c2) (10 * f + k) (10 * f + S cn f - 1))) cn f (S cn f - 1)
/-! ===== crossing ===== -/
def sgn3 (x y : Int) : Int := if x < y then -1 else if x = y then 0 else 1
def sdI (a u : Int → Int) (p q r : Int) : Int := sgn3 ((a q - a p) * (u r - u p)) ((u q - u p) * (a r - a p))
def spB (a b c d : Int) : Bool := decide (min c d ≤ max a b) && decide (min a b ≤ max c d)
def stB (a u : Int → Int) (p q r t : Int) : Bool := decide (sdI a u p q r * sdI a u p q t ≤ 0)
def meB (a u : Int → Int) (p q r t : Int) : Bool := spB (a p) (a q) (a r) (a t) && (spB (u p) (u q) (u r) (u t) && (stB a u p q r t && stB a u r t p q))
theorem sgn3_b (x y : Int) : -1 ≤ sgn3 x y ∧ sgn3 x y ≤ 1 := by unfold sgn3; split <;> (try split) <;> omega
theorem sdI_b (a u : Int → Int) (p q r : Int) : -1 ≤ sdI a u p q r ∧ sdI a u p q r ≤ 1 := sgn3_b _ _
/-! ===== what the small writers do to the store ===== -/
def mvS (S : gSt) (z a u : Int) : gSt := st (st S 2 z a) 3 z u
def adS (S : gSt) (a u : Int) : gSt := st (mvS S (S 1 0) a u) 1 0 (S 1 0 + 1)
def kpS (S : gSt) (a b v u w : Int) : gSt := st (st (st (st (st (st (st S 18 (S 17 0) a) 19 (S 17 0) b) 20 (S 17 0) v) 21 (S 17 0) u) 22 (S 17 0) w) 17 0 ((S 17 0 + 1) % 30)) 17 1 (min (S 17 1 + 1) 30)
def sbS (S : gSt) : gSt := st (st S 17 0 ((S 17 0 + 29) % 30)) 17 1 (S 17 1 - 1)
def apS (S : gSt) (a b v u : Int) : gSt := st (st (st (st (st S 13 (S 12 0) a) 14 (S 12 0) b) 15 (S 12 0) v) 16 (S 12 0) u) 12 0 (S 12 0 + 1)
/-! ===== heights of figures, shows ===== -/
theorem hg_b (lat u t : Int) : -3000 ≤ hg lat u t ∧ hg lat u t ≤ 3000 := by
  have b1 := mul_b (sn_b lat) (sn_b u) (by decide) (by decide)
  have b2 := mul_b (cs_b lat) (cs_b u) (by decide) (by decide)
  have b3 := mul_b b2 (cs_b t) (by decide) (by decide)
  unfold hg
  omega
def hgA (a u : Int → Int) (lat t : Int) : Int → Int := fun z => hg lat (u z) (t - a z)
def loQ (h e o : Int → Int) : Int → Int → Int := fun j a => min (min a (h (e j))) (h (o j))
def lwI (n e o a u : Int → Int) (f lat t : Int) : Int := lpF (loQ (hgA a u lat t) e o) (n f).toNat (10 * f) (if n f = 0 then 0 else 1000)
theorem loF_b {h e o : Int → Int} (hh : ∀ z, -3000 ≤ h z ∧ h z ≤ 3000) : ∀ (k : Nat) (j a : Int), -3000 ≤ a ∧ a ≤ 3000 → -3000 ≤ lpF (loQ h e o) k j a ∧ lpF (loQ h e o) k j a ≤ 3000
  | 0, _, _, ha => ha
  | k + 1, j, a, ha => loF_b hh k (j + 1) _ (by
      have h1 := hh (e j)
      have h2 := hh (o j)
      show -3000 ≤ min (min a (h (e j))) (h (o j)) ∧ min (min a (h (e j))) (h (o j)) ≤ 3000
      omega)
theorem lwI_b (n e o a u : Int → Int) (f lat t : Int) : -3000 ≤ lwI n e o a u f lat t ∧ lwI n e o a u f lat t ≤ 3000 := by
  unfold lwI
  refine loF_b (fun z => hg_b _ _ _) _ _ _ ?_
  split <;> omega
def upB (n e o a u : Int → Int) (f lat t : Int) : Bool := decide (0 < lwI n e o a u f lat t)
/-- the hours of a day, as a set, in which p holds -/
def dyQ (p : Int → Bool) : Int → Nat → Nat := fun h k => if p h = true then k ||| 2 ^ h.toNat else k
def dyN (p : Int → Bool) : Nat := lpF (dyQ p) (24 : Int).toNat 0 0
theorem dyF_b (p : Int → Bool) : ∀ (k : Nat) (i : Int) (a : Nat), 0 ≤ i → i + k ≤ 24 → a < 2 ^ 24 → lpF (dyQ p) k i a < 2 ^ 24
  | 0, _, _, _, _, ha => ha
  | k + 1, i, a, h0, h1, ha => dyF_b p k (i + 1) _ (by omega) (by omega) (by
      unfold dyQ
      split
      · exact Nat.or_lt_two_pow ha (Nat.pow_lt_pow_right (by decide) (by omega))
      · exact ha)
theorem dyN_b (p : Int → Bool) : dyN p < 2 ^ 24 := dyF_b p _ _ _ (by omega) (by decide) (by decide)
def hsN (a u : Int → Int) (z lat d : Int) : Nat := dyN (fun h => decide (0 < hgA a u lat (15 * h + d) z))
def swB (S : gSt) (i : Int) : Bool := !(decide (S 11 (S 13 i) = S 14 i) && upB (S 5) (S 6) (S 7) (S 2) (S 3) (S 13 i) (S 15 i) (S 16 i))
def cnQ (p : Int → Bool) : Int → Int → Int := fun i a => if p i = true then a + 1 else a
def wrI (S : gSt) : Int := lpF (cnQ (swB S)) (S 12 0).toNat 0 0
def okG (G : Int → Int) : Prop := ∀ j : Int, 0 ≤ j → j < 8 → -1 ≤ G j ∧ G j < 10
def okP (fi na la tu : Int → Int) : Prop := ∀ i : Int, 0 ≤ i → i < 12 → (0 ≤ fi i ∧ fi i < 8) ∧ (-1 ≤ na i ∧ na i < 10) ∧ (-90 ≤ la i ∧ la i ≤ 90) ∧ (0 ≤ tu i ∧ tu i ≤ 1000)
/-- two lines cross -/
def lcB (a u e o : Int → Int) (i j : Int) : Bool := !(decide (e i = e j) || (decide (e i = o j) || (decide (o i = e j) || decide (o i = o j)))) && meB a u (e i) (o i) (e j) (o j)
end
section
set_option maxRecDepth 100000 in
set_option maxHeartbeats 4000000 in
theorem c_J9_floorMod_7cf53 (l : Launch) (g : gT) (S : gSt) (x : Int) (h0 : -2147483648 ≤ x ∧ x < 2147483648) : MetG l g yJ9_floorMod_7cf53 cJ9_floorMod_7cf53 3 (some .int) 0 0 [.int (iI x), .int (iI 360)] S (some (.int (iI (x % 360)))) S := by
  refine bodyG (by decide +kernel) (Nat.le_of_ble_eq_true rfl) ?_
  intro p e s m args below meth c ls C0 hret hlk hl hH
  have zx := C0.1
  have zb := C0.2.1
  have hl : lv_has ls 3 [(0, .int (iI x)), (1, .int (iI 360))] := hl
  obtain ⟨H, hHe⟩ : ∃ H : Heap, H = s.heap := ⟨_, rfl⟩
  rw [show (Hp g S s s.heap []) = Hp g S s H [] by rw [hHe]] at hH
  rw [← hHe]
  refine lv_iload_n zx zb dJ9_floorMod_7cf53_0 rfl (lv_at hl 0 rfl) ?_
  refine lv_iload_n zx zb dJ9_floorMod_7cf53_1 rfl (lv_at hl 1 rfl) ?_
  refine bi_rem zx zb dJ9_floorMod_7cf53_2 ⟨by omega, by omega⟩ ⟨by omega, by omega⟩ (by omega) ?_
  have e3 : (x.tmod 360) = if 0 ≤ x then x % 360 else -((-x) % 360) := by by_cases h : 0 ≤ x; (rw [if_pos h]; exact tm_p h); (rw [if_neg h]; exact tm_n (by omega))
  have e4 : (0 ≤ x ∧ x.tmod 360 = x % 360) ∨ (x < 0 ∧ x.tmod 360 = -((-x) % 360)) := by split at e3 <;> omega
  refine lv_istore_n (lv' := [(2, .int (iI (x.tmod 360))), (0, .int (iI x)), (1, .int (iI 360))]) zx zb dJ9_floorMod_7cf53_3 rfl hl (by decide) rfl (fun ls hl => ?_)
  refine lv_iload_n zx zb dJ9_floorMod_7cf53_4 rfl (lv_at hl 1 rfl) ?_
  refine lv_iload_n zx zb dJ9_floorMod_7cf53_5 rfl (lv_at hl 2 rfl) ?_
  refine bx_xorge (tgt := 18) zx zb dJ9_floorMod_7cf53_6 dJ9_floorMod_7cf53_7 (by decide) ⟨by omega, by omega⟩ ⟨by omega, by omega⟩ (by omega) (fun zq6 => ?_) (fun zq6 => ?_)
  · refine lv_iload_n zx zb dJ9_floorMod_7cf53_18 rfl (lv_at hl 0 rfl) ?_
    exact retI C0 hret hlk hH (by omega) (rfl) dJ9_floorMod_7cf53_19
  · refine lv_iload_n zx zb dJ9_floorMod_7cf53_10 rfl (lv_at hl 0 rfl) ?_
    refine bz_eq (tgt := 18) zx zb dJ9_floorMod_7cf53_11 (by decide) ⟨by omega, by omega⟩ (fun zq11 => ?_) (fun zq11 => ?_)
    · refine lv_iload_n zx zb dJ9_floorMod_7cf53_18 rfl (lv_at hl 0 rfl) ?_
      exact retI C0 hret hlk hH (by omega) (rfl) dJ9_floorMod_7cf53_19
    · refine lv_iload_n zx zb dJ9_floorMod_7cf53_14 rfl (lv_at hl 0 rfl) ?_
      refine lv_iload_n zx zb dJ9_floorMod_7cf53_15 rfl (lv_at hl 2 rfl) ?_
      refine bi_add zx zb dJ9_floorMod_7cf53_16 ?_
      exact retI C0 hret hlk hH (by omega) (rfl) dJ9_floorMod_7cf53_17
set_option maxRecDepth 100000 in
set_option maxHeartbeats 4000000 in
theorem c_J9_floorDiv_7cf53 (l : Launch) (g : gT) (S : gSt) (x : Int) (h0 : -2147483648 ≤ x ∧ x < 2147483648) : MetG l g yJ9_floorDiv_7cf53 cJ9_floorDiv_7cf53 3 (some .int) 0 0 [.int (iI x), .int (iI 1000)] S (some (.int (iI (x / 1000)))) S := by
  refine bodyG (by decide +kernel) (Nat.le_of_ble_eq_true rfl) ?_
  intro p e s m args below meth c ls C0 hret hlk hl hH
  have zx := C0.1
  have zb := C0.2.1
  have hl : lv_has ls 3 [(0, .int (iI x)), (1, .int (iI 1000))] := hl
  obtain ⟨H, hHe⟩ : ∃ H : Heap, H = s.heap := ⟨_, rfl⟩
  rw [show (Hp g S s s.heap []) = Hp g S s H [] by rw [hHe]] at hH
  rw [← hHe]
  refine lv_iload_n zx zb dJ9_floorDiv_7cf53_0 rfl (lv_at hl 0 rfl) ?_
  refine lv_iload_n zx zb dJ9_floorDiv_7cf53_1 rfl (lv_at hl 1 rfl) ?_
  refine bi_div zx zb dJ9_floorDiv_7cf53_2 ⟨by omega, by omega⟩ ⟨by omega, by omega⟩ (by omega) ?_
  have e4 : (0 ≤ x ∧ x.tdiv 1000 = x / 1000) ∨ (x < 0 ∧ x.tdiv 1000 = -((-x) / 1000)) := by by_cases h : 0 ≤ x; (exact Or.inl ⟨h, td_p h⟩); (exact Or.inr ⟨by omega, td_n (by omega)⟩)
  refine lv_istore_n (lv' := [(2, .int (iI (x.tdiv 1000))), (0, .int (iI x)), (1, .int (iI 1000))]) zx zb dJ9_floorDiv_7cf53_3 rfl hl (by decide) rfl (fun ls hl => ?_)
  refine lv_iload_n zx zb dJ9_floorDiv_7cf53_4 rfl (lv_at hl 1 rfl) ?_
  refine lv_iload_n zx zb dJ9_floorDiv_7cf53_5 rfl (lv_at hl 2 rfl) ?_
  refine bx_xorge (tgt := 21) zx zb dJ9_floorDiv_7cf53_6 dJ9_floorDiv_7cf53_7 (by decide) ⟨by omega, by omega⟩ ⟨by omega, by omega⟩ (by omega) (fun zq6 => ?_) (fun zq6 => ?_)
  · refine lv_iload_n zx zb dJ9_floorDiv_7cf53_21 rfl (lv_at hl 0 rfl) ?_
    exact retI C0 hret hlk hH (by omega) (rfl) dJ9_floorDiv_7cf53_22
  · refine lv_iload_n zx zb dJ9_floorDiv_7cf53_10 rfl (lv_at hl 0 rfl) ?_
    refine lv_iload_n zx zb dJ9_floorDiv_7cf53_11 rfl (lv_at hl 2 rfl) ?_
    refine bi_mul zx zb dJ9_floorDiv_7cf53_12 ?_
    refine lv_iload_n zx zb dJ9_floorDiv_7cf53_13 rfl (lv_at hl 1 rfl) ?_
    refine bq_eq (tgt := 21) zx zb dJ9_floorDiv_7cf53_14 (by decide) ⟨by omega, by omega⟩ ⟨by omega, by omega⟩ (fun zq14 => ?_) (fun zq14 => ?_)
    · refine lv_iload_n zx zb dJ9_floorDiv_7cf53_21 rfl (lv_at hl 0 rfl) ?_
      exact retI C0 hret hlk hH (by omega) (rfl) dJ9_floorDiv_7cf53_22
    · refine lv_iload_n zx zb dJ9_floorDiv_7cf53_17 rfl (lv_at hl 0 rfl) ?_
      refine bi_const (n := 1) zx zb dJ9_floorDiv_7cf53_18 ?_
      refine bi_sub zx zb dJ9_floorDiv_7cf53_19 ?_
      exact retI C0 hret hlk hH (by omega) (rfl) dJ9_floorDiv_7cf53_20
set_option maxRecDepth 100000 in
set_option maxHeartbeats 4000000 in
theorem c_J9_min_7cf53 (l : Launch) (g : gT) (S : gSt) (x y : Int) (h0 : -2147483648 ≤ x ∧ x < 2147483648) (h1 : -2147483648 ≤ y ∧ y < 2147483648) : MetG l g yJ9_min_7cf53 cJ9_min_7cf53 2 (some .int) 0 0 [.int (iI x), .int (iI y)] S (some (.int (iI (min x y)))) S := by
  refine bodyG (by decide +kernel) (Nat.le_of_ble_eq_true rfl) ?_
  intro p e s m args below meth c ls C0 hret hlk hl hH
  have zx := C0.1
  have zb := C0.2.1
  have hl : lv_has ls 2 [(0, .int (iI x)), (1, .int (iI y))] := hl
  obtain ⟨H, hHe⟩ : ∃ H : Heap, H = s.heap := ⟨_, rfl⟩
  rw [show (Hp g S s s.heap []) = Hp g S s H [] by rw [hHe]] at hH
  rw [← hHe]
  refine lv_iload_n zx zb dJ9_min_7cf53_0 rfl (lv_at hl 0 rfl) ?_
  refine lv_iload_n zx zb dJ9_min_7cf53_1 rfl (lv_at hl 1 rfl) ?_
  refine bq_gt (tgt := 9) zx zb dJ9_min_7cf53_2 (by decide) ⟨by omega, by omega⟩ ⟨by omega, by omega⟩ (fun zq2 => ?_) (fun zq2 => ?_)
  · refine lv_iload_n zx zb dJ9_min_7cf53_9 rfl (lv_at hl 1 rfl) ?_
    exact retI C0 hret hlk hH (by omega) (rfl) dJ9_min_7cf53_10
  · refine lv_iload_n zx zb dJ9_min_7cf53_5 rfl (lv_at hl 0 rfl) ?_
    refine lv_goto (tgt := 10) zx zb dJ9_min_7cf53_6 (by decide) ?_
    exact retI C0 hret hlk hH (by omega) (rfl) dJ9_min_7cf53_10
set_option maxRecDepth 100000 in
set_option maxHeartbeats 4000000 in
theorem c_J9_max_7cf53 (l : Launch) (g : gT) (S : gSt) (x y : Int) (h0 : -2147483648 ≤ x ∧ x < 2147483648) (h1 : -2147483648 ≤ y ∧ y < 2147483648) : MetG l g yJ9_max_7cf53 cJ9_max_7cf53 2 (some .int) 0 0 [.int (iI x), .int (iI y)] S (some (.int (iI (max x y)))) S := by
  refine bodyG (by decide +kernel) (Nat.le_of_ble_eq_true rfl) ?_
  intro p e s m args below meth c ls C0 hret hlk hl hH
  have zx := C0.1
  have zb := C0.2.1
  have hl : lv_has ls 2 [(0, .int (iI x)), (1, .int (iI y))] := hl
  obtain ⟨H, hHe⟩ : ∃ H : Heap, H = s.heap := ⟨_, rfl⟩
  rw [show (Hp g S s s.heap []) = Hp g S s H [] by rw [hHe]] at hH
  rw [← hHe]
  refine lv_iload_n zx zb dJ9_max_7cf53_0 rfl (lv_at hl 0 rfl) ?_
  refine lv_iload_n zx zb dJ9_max_7cf53_1 rfl (lv_at hl 1 rfl) ?_
  refine bq_lt (tgt := 9) zx zb dJ9_max_7cf53_2 (by decide) ⟨by omega, by omega⟩ ⟨by omega, by omega⟩ (fun zq2 => ?_) (fun zq2 => ?_)
  · refine lv_iload_n zx zb dJ9_max_7cf53_9 rfl (lv_at hl 1 rfl) ?_
    exact retI C0 hret hlk hH (by omega) (rfl) dJ9_max_7cf53_10
  · refine lv_iload_n zx zb dJ9_max_7cf53_5 rfl (lv_at hl 0 rfl) ?_
    refine lv_goto (tgt := 10) zx zb dJ9_max_7cf53_6 (by decide) ?_
    exact retI C0 hret hlk hH (by omega) (rfl) dJ9_max_7cf53_10
set_option maxRecDepth 100000 in
set_option maxHeartbeats 4000000 in
theorem c_J6_compare_7cf53 (l : Launch) (g : gT) (S : gSt) (x y : Int) (h0 : -2147483648 ≤ x ∧ x < 2147483648) (h1 : -2147483648 ≤ y ∧ y < 2147483648) : MetG l g yJ6_compare_7cf53 cJ6_compare_7cf53 2 (some .int) 0 0 [.int (iI x), .int (iI y)] S (some (.int (iI (if x < y then -1 else if x = y then 0 else 1)))) S := by
  refine bodyG (by decide +kernel) (Nat.le_of_ble_eq_true rfl) ?_
  intro p e s m args below meth c ls C0 hret hlk hl hH
  have zx := C0.1
  have zb := C0.2.1
  have hl : lv_has ls 2 [(0, .int (iI x)), (1, .int (iI y))] := hl
  obtain ⟨H, hHe⟩ : ∃ H : Heap, H = s.heap := ⟨_, rfl⟩
  rw [show (Hp g S s s.heap []) = Hp g S s H [] by rw [hHe]] at hH
  rw [← hHe]
  refine lv_iload_n zx zb dJ6_compare_7cf53_0 rfl (lv_at hl 0 rfl) ?_
  refine lv_iload_n zx zb dJ6_compare_7cf53_1 rfl (lv_at hl 1 rfl) ?_
  refine bq_ge (tgt := 9) zx zb dJ6_compare_7cf53_2 (by decide) ⟨by omega, by omega⟩ ⟨by omega, by omega⟩ (fun zq2 => ?_) (fun zq2 => ?_)
  · refine lv_iload_n zx zb dJ6_compare_7cf53_9 rfl (lv_at hl 0 rfl) ?_
    refine lv_iload_n zx zb dJ6_compare_7cf53_10 rfl (lv_at hl 1 rfl) ?_
    refine bq_ne (tgt := 18) zx zb dJ6_compare_7cf53_11 (by decide) ⟨by omega, by omega⟩ ⟨by omega, by omega⟩ (fun zq11 => ?_) (fun zq11 => ?_)
    · refine bi_const (n := 1) zx zb dJ6_compare_7cf53_18 ?_
      exact retI C0 hret hlk hH (by split <;> (try split) <;> omega) (rfl) dJ6_compare_7cf53_19
    · refine bi_const (n := 0) zx zb dJ6_compare_7cf53_14 ?_
      refine lv_goto (tgt := 19) zx zb dJ6_compare_7cf53_15 (by decide) ?_
      exact retI C0 hret hlk hH (by split <;> (try split) <;> omega) (rfl) dJ6_compare_7cf53_19
  · refine bi_const (n := (-1)) zx zb dJ6_compare_7cf53_5 ?_
    refine lv_goto (tgt := 19) zx zb dJ6_compare_7cf53_6 (by decide) ?_
    exact retI C0 hret hlk hH (by split <;> (try split) <;> omega) (rfl) dJ6_compare_7cf53_19
set_option maxRecDepth 100000 in
set_option maxHeartbeats 4000000 in
theorem c_X0_sine (l : Launch) (g : gT) (S : gSt) (a : Int) (h0 : -2147483648 ≤ a ∧ a < 2147483648) : MetG l g yX0_sine cX0_sine 6 (some .int) 1 22 [.int (iI a)] S (some (.int (iI (sn a)))) S := by
  refine bodyG (by decide +kernel) (Nat.le_of_ble_eq_true rfl) ?_
  intro p e s m args below meth c ls C0 hret hlk hl hH
  have zx := C0.1
  have zb := C0.2.1
  have hl : lv_has ls 6 [(0, .int (iI a))] := hl
  obtain ⟨H, hHe⟩ : ∃ H : Heap, H = s.heap := ⟨_, rfl⟩
  rw [show (Hp g S s s.heap []) = Hp g S s H [] by rw [hHe]] at hH
  rw [← hHe]
  refine lv_iload_n zx zb dX0_sine_0 rfl (lv_at hl 0 rfl) ?_
  refine bi_sip (n := 360) zx zb dX0_sine_1 (by decide) ?_
  refine csI (rest := []) (As := [.int (iI a), .int (iI 360)]) C0 hH (c_J9_floorMod_7cf53 l g S a (by omega)) kw_X0_9 ky_J9_floorMod_7cf53 ⟨Nat.le_of_ble_eq_true rfl, Nat.le_of_ble_eq_true rfl⟩ ⟨Nat.zero_le _, Nat.zero_le _⟩ rfl hl.1 rfl (Nat.le_of_ble_eq_true rfl) dX0_sine_4 (fun H locs hH => ?_)
  refine lv_istore_n (lv' := [(1, .int (iI (a % 360))), (0, .int (iI a))]) zx zb dX0_sine_7 rfl hl (by decide) rfl (fun ls hl => ?_)
  refine lv_iload_n zx zb dX0_sine_8 rfl (lv_at hl 0 rfl) ?_
  refine bi_sip (n := 180) zx zb dX0_sine_9 (by decide) ?_
  refine bi_rem zx zb dX0_sine_12 ⟨by omega, by omega⟩ ⟨by omega, by omega⟩ (by omega) ?_
  rw [tm_p (show 0 ≤ a % 360 by omega)]
  refine lv_istore_n (lv' := [(2, .int (iI (a % 360 % 180))), (1, .int (iI (a % 360))), (0, .int (iI a))]) zx zb dX0_sine_13 rfl hl (by decide) rfl (fun ls hl => ?_)
  refine lv_iload_n zx zb dX0_sine_14 rfl (lv_at hl 0 rfl) ?_
  refine bi_sip (n := 180) zx zb dX0_sine_15 (by decide) ?_
  refine lv_iload_n zx zb dX0_sine_18 rfl (lv_at hl 0 rfl) ?_
  refine bi_sub zx zb dX0_sine_19 ?_
  refine bi_mul zx zb dX0_sine_20 ?_
  have hpb := prod_b (h := a % 360 % 180) (by omega) (by omega)
  obtain ⟨P, hP⟩ : ∃ P : Int, P = a % 360 % 180 * (180 - a % 360 % 180) := ⟨_, rfl⟩
  rw [← hP] at hpb ⊢
  refine lv_istore_n (lv' := [(3, .int (iI P)), (2, .int (iI (a % 360 % 180))), (1, .int (iI (a % 360))), (0, .int (iI a))]) zx zb dX0_sine_21 rfl hl (by decide) rfl (fun ls hl => ?_)
  refine bi_ldc (n := 40500) zx zb C0.2.2.2.1 (C0.2.2.2.2.1.w (gm 340 (by decide +kernel) rfl)) dX0_sine_22 ?_
  refine lv_iload_n zx zb dX0_sine_24 rfl (lv_at hl 0 rfl) ?_
  refine bi_sub zx zb dX0_sine_25 ?_
  refine lv_istore (lv' := [(4, .int (iI (40500 - P))), (3, .int (iI P)), (2, .int (iI (a % 360 % 180))), (1, .int (iI (a % 360))), (0, .int (iI a))]) zx zb dX0_sine_26 hl (by decide) rfl (fun ls hl => ?_)
  refine lv_iload zx zb dX0_sine_28 (lv_at hl 0 rfl) ?_
  refine bz_le (tgt := 44) zx zb dX0_sine_30 (by decide) ⟨by omega, by omega⟩ (fun zq30 => ?_) (fun zq30 => ?_)
  · exact absurd zq30 (by omega)
  · refine bi_sip (n := 4000) zx zb dX0_sine_33 (by decide) ?_
    refine lv_iload_n zx zb dX0_sine_36 rfl (lv_at hl 1 rfl) ?_
    refine bi_mul zx zb dX0_sine_37 ?_
    refine lv_iload zx zb dX0_sine_38 (lv_at hl 0 rfl) ?_
    refine bi_div zx zb dX0_sine_40 ⟨by omega, by omega⟩ ⟨by omega, by omega⟩ (by omega) ?_
    rw [td_p (show 0 ≤ 4000 * P by omega)]
    refine lv_goto (tgt := 45) zx zb dX0_sine_41 (by decide) ?_
    refine lv_istore (lv' := [(5, .int (iI ((4000 * P) / (40500 - P)))), (4, .int (iI (40500 - P))), (3, .int (iI P)), (2, .int (iI (a % 360 % 180))), (1, .int (iI (a % 360))), (0, .int (iI a))]) zx zb dX0_sine_45 hl (by decide) rfl (fun ls hl => ?_)
    refine lv_iload_n zx zb dX0_sine_47 rfl (lv_at hl 4 rfl) ?_
    refine bi_sip (n := 180) zx zb dX0_sine_48 (by decide) ?_
    refine bq_ge (tgt := 59) zx zb dX0_sine_51 (by decide) ⟨by omega, by omega⟩ ⟨by omega, by omega⟩ (fun zq51 => ?_) (fun zq51 => ?_)
    · refine lv_iload zx zb dX0_sine_59 (lv_at hl 0 rfl) ?_
      refine bi_neg zx zb dX0_sine_61 ?_
      exact retI C0 hret hlk hH (by simp only [sn, sh, ← hP]; split <;> first | rfl | omega) (rfl) dX0_sine_62
    · refine lv_iload zx zb dX0_sine_54 (lv_at hl 0 rfl) ?_
      refine lv_goto (tgt := 62) zx zb dX0_sine_56 (by decide) ?_
      exact retI C0 hret hlk hH (by simp only [sn, sh, ← hP]; split <;> first | rfl | omega) (rfl) dX0_sine_62
set_option maxRecDepth 100000 in
set_option maxHeartbeats 4000000 in
theorem c_X0_cosine (l : Launch) (g : gT) (S : gSt) (a : Int) (h0 : -2147483648 ≤ a ∧ a < 2147483000) : MetG l g yX0_cosine cX0_cosine 1 (some .int) 2 47 [.int (iI a)] S (some (.int (iI (cs a)))) S := by
  refine bodyG (by decide +kernel) (Nat.le_of_ble_eq_true rfl) ?_
  intro p e s m args below meth c ls C0 hret hlk hl hH
  have zx := C0.1
  have zb := C0.2.1
  have hl : lv_has ls 1 [(0, .int (iI a))] := hl
  obtain ⟨H, hHe⟩ : ∃ H : Heap, H = s.heap := ⟨_, rfl⟩
  rw [show (Hp g S s s.heap []) = Hp g S s H [] by rw [hHe]] at hH
  rw [← hHe]
  refine lv_iload_n zx zb dX0_cosine_0 rfl (lv_at hl 0 rfl) ?_
  refine bi_bip (n := 90) zx zb dX0_cosine_1 (by decide) ?_
  refine bi_add zx zb dX0_cosine_3 ?_
  refine csI (rest := []) (As := [.int (iI (a + 90))]) C0 hH (c_X0_sine l g S (a + 90) (by omega)) kw_X0_18 ky_X0_sine ⟨Nat.le_of_ble_eq_true rfl, Nat.le_of_ble_eq_true rfl⟩ ⟨Nat.zero_le _, Nat.zero_le _⟩ rfl hl.1 rfl (Nat.le_of_ble_eq_true rfl) dX0_cosine_4 (fun H locs hH => ?_)
  exact retI C0 hret hlk hH (by rfl) (rfl) dX0_cosine_7
set_option maxRecDepth 100000 in
set_option maxHeartbeats 4000000 in
theorem c_X2_heightAt (l : Launch) (g : gT) (S : gSt) (z lat t : Int) (hz : 0 ≤ z ∧ z < 24) (hlat : -90 ≤ lat ∧ lat ≤ 90) (ht : 0 ≤ t ∧ t ≤ 1000) (hC : okC (S 2) (S 3)) : MetG l g yX2_heightAt cX2_heightAt 7 (some .int) 3 67 [.ref (g.1 1), .int (iI z), .int (iI lat), .int (iI t)] S (some (.int (iI (hg lat (S 3 z) (t - S 2 z))))) S := by
  refine bodyG (by decide +kernel) (Nat.le_of_ble_eq_true rfl) ?_
  intro p e s m args below meth c ls C0 hret hlk hl hH
  have zx := C0.1
  have zb := C0.2.1
  have hl : lv_has ls 7 [(0, .ref (g.1 1)), (1, .int (iI z)), (2, .int (iI lat)), (3, .int (iI t))] := hl
  obtain ⟨H, hHe⟩ : ∃ H : Heap, H = s.heap := ⟨_, rfl⟩
  rw [show (Hp g S s s.heap []) = Hp g S s H [] by rw [hHe]] at hH
  rw [← hHe]
  have hc := hC z hz.1 hz.2
  refine lv_aload_n zx zb dX2_heightAt_0 rfl (lv_at hl 0 rfl) ?_
  refine gf_X2_15 C0 hH dX2_heightAt_1 ?_
  refine lv_iload_n zx zb dX2_heightAt_4 rfl (lv_at hl 1 rfl) ?_
  refine al_3 C0 hH (by omega) (by omega) dX2_heightAt_5 ?_
  refine lv_istore (lv' := [(4, .int (iI (S 3 z))), (0, .ref (g.1 1)), (1, .int (iI z)), (2, .int (iI lat)), (3, .int (iI t))]) zx zb dX2_heightAt_6 hl (by decide) rfl (fun ls hl => ?_)
  refine lv_iload_n zx zb dX2_heightAt_8 rfl (lv_at hl 3 rfl) ?_
  refine csI (rest := []) (As := [.int (iI lat)]) C0 hH (c_X0_sine l g S lat (by omega)) kw_X2_26 ky_X0_sine ⟨Nat.le_of_ble_eq_true rfl, Nat.le_of_ble_eq_true rfl⟩ ⟨Nat.zero_le _, Nat.zero_le _⟩ rfl hl.1 rfl (Nat.le_of_ble_eq_true rfl) dX2_heightAt_9 (fun H locs hH => ?_)
  refine lv_iload zx zb dX2_heightAt_12 (lv_at hl 0 rfl) ?_
  refine csI (rest := [.int (iI (sn lat))]) (As := [.int (iI (S 3 z))]) C0 hH (c_X0_sine l g S (S 3 z) (by omega)) kw_X2_26 ky_X0_sine ⟨Nat.le_of_ble_eq_true rfl, Nat.le_of_ble_eq_true rfl⟩ ⟨Nat.zero_le _, Nat.zero_le _⟩ rfl hl.1 rfl (Nat.le_of_ble_eq_true rfl) dX2_heightAt_14 (fun H locs hH => ?_)
  refine bi_mul zx zb dX2_heightAt_17 ?_
  refine lv_istore (lv' := [(5, .int (iI ((sn lat) * (sn (S 3 z))))), (4, .int (iI (S 3 z))), (0, .ref (g.1 1)), (1, .int (iI z)), (2, .int (iI lat)), (3, .int (iI t))]) zx zb dX2_heightAt_18 hl (by decide) rfl (fun ls hl => ?_)
  refine lv_iload_n zx zb dX2_heightAt_20 rfl (lv_at hl 4 rfl) ?_
  refine csI (rest := []) (As := [.int (iI lat)]) C0 hH (c_X0_cosine l g S lat (by omega)) kw_X2_32 ky_X0_cosine ⟨Nat.le_of_ble_eq_true rfl, Nat.le_of_ble_eq_true rfl⟩ ⟨Nat.zero_le _, Nat.zero_le _⟩ rfl hl.1 rfl (Nat.le_of_ble_eq_true rfl) dX2_heightAt_21 (fun H locs hH => ?_)
  refine lv_iload zx zb dX2_heightAt_24 (lv_at hl 1 rfl) ?_
  refine csI (rest := [.int (iI (cs lat))]) (As := [.int (iI (S 3 z))]) C0 hH (c_X0_cosine l g S (S 3 z) (by omega)) kw_X2_32 ky_X0_cosine ⟨Nat.le_of_ble_eq_true rfl, Nat.le_of_ble_eq_true rfl⟩ ⟨Nat.zero_le _, Nat.zero_le _⟩ rfl hl.1 rfl (Nat.le_of_ble_eq_true rfl) dX2_heightAt_26 (fun H locs hH => ?_)
  refine bi_mul zx zb dX2_heightAt_29 ?_
  refine lv_iload_n zx zb dX2_heightAt_30 rfl (lv_at hl 5 rfl) ?_
  refine lv_aload_n zx zb dX2_heightAt_31 rfl (lv_at hl 2 rfl) ?_
  refine gf_X2_9 C0 hH dX2_heightAt_32 ?_
  refine lv_iload_n zx zb dX2_heightAt_35 rfl (lv_at hl 3 rfl) ?_
  refine al_2 C0 hH (by omega) (by omega) dX2_heightAt_36 ?_
  refine bi_sub zx zb dX2_heightAt_37 ?_
  refine csI (rest := [.int (iI ((cs lat) * (cs (S 3 z))))]) (As := [.int (iI (t - (S 2 z)))]) C0 hH (c_X0_cosine l g S (t - (S 2 z)) (by omega)) kw_X2_32 ky_X0_cosine ⟨Nat.le_of_ble_eq_true rfl, Nat.le_of_ble_eq_true rfl⟩ ⟨Nat.zero_le _, Nat.zero_le _⟩ rfl hl.1 rfl (Nat.le_of_ble_eq_true rfl) dX2_heightAt_38 (fun H locs hH => ?_)
  refine bi_mul zx zb dX2_heightAt_41 ?_
  refine lv_istore (lv' := [(6, .int (iI (((cs lat) * (cs (S 3 z))) * (cs (t - (S 2 z)))))), (5, .int (iI ((sn lat) * (sn (S 3 z))))), (4, .int (iI (S 3 z))), (0, .ref (g.1 1)), (1, .int (iI z)), (2, .int (iI lat)), (3, .int (iI t))]) zx zb dX2_heightAt_42 hl (by decide) rfl (fun ls hl => ?_)
  have b1 := mul_b (sn_b lat) (sn_b (S 3 z)) (by decide) (by decide)
  have b2 := mul_b (cs_b lat) (cs_b (S 3 z)) (by decide) (by decide)
  have b3 := mul_b b2 (cs_b (t - S 2 z)) (by decide) (by decide)
  refine lv_iload zx zb dX2_heightAt_44 (lv_at hl 1 rfl) ?_
  refine lv_iload zx zb dX2_heightAt_46 (lv_at hl 0 rfl) ?_
  refine bi_sip (n := 1000) zx zb dX2_heightAt_48 (by decide) ?_
  refine csI (rest := [.int (iI ((sn lat) * (sn (S 3 z))))]) (As := [.int (iI (((cs lat) * (cs (S 3 z))) * (cs (t - (S 2 z))))), .int (iI 1000)]) C0 hH (c_J9_floorDiv_7cf53 l g S (((cs lat) * (cs (S 3 z))) * (cs (t - (S 2 z)))) (by omega)) kw_X2_35 ky_J9_floorDiv_7cf53 ⟨Nat.le_of_ble_eq_true rfl, Nat.le_of_ble_eq_true rfl⟩ ⟨Nat.zero_le _, Nat.zero_le _⟩ rfl hl.1 rfl (Nat.le_of_ble_eq_true rfl) dX2_heightAt_51 (fun H locs hH => ?_)
  refine bi_add zx zb dX2_heightAt_54 ?_
  refine bi_sip (n := 1000) zx zb dX2_heightAt_55 (by decide) ?_
  refine csI (rest := []) (As := [.int (iI (((sn lat) * (sn (S 3 z))) + ((((cs lat) * (cs (S 3 z))) * (cs (t - (S 2 z)))) / 1000))), .int (iI 1000)]) C0 hH (c_J9_floorDiv_7cf53 l g S (((sn lat) * (sn (S 3 z))) + ((((cs lat) * (cs (S 3 z))) * (cs (t - (S 2 z)))) / 1000)) (by omega)) kw_X2_35 ky_J9_floorDiv_7cf53 ⟨Nat.le_of_ble_eq_true rfl, Nat.le_of_ble_eq_true rfl⟩ ⟨Nat.zero_le _, Nat.zero_le _⟩ rfl hl.1 rfl (Nat.le_of_ble_eq_true rfl) dX2_heightAt_58 (fun H locs hH => ?_)
  exact retI C0 hret hlk hH (by rfl) (rfl) dX2_heightAt_61
end
section
set_option maxRecDepth 100000 in
set_option maxHeartbeats 4000000 in
theorem c_X2_move (l : Launch) (g : gT) (S : gSt) (z a u : Int) (hz : 0 ≤ z ∧ z < 24) : MetG l g yX2_move cX2_move 4 none 0 0 [.ref (g.1 1), .int (iI z), .int (iI a), .int (iI u)] S none (mvS S z a u) := by
  refine bodyG (by decide +kernel) (Nat.le_of_ble_eq_true rfl) ?_
  intro p e s m args below meth c ls C0 hret hlk hl hH
  have zx := C0.1
  have zb := C0.2.1
  have hl : lv_has ls 4 [(0, .ref (g.1 1)), (1, .int (iI z)), (2, .int (iI a)), (3, .int (iI u))] := hl
  obtain ⟨H, hHe⟩ : ∃ H : Heap, H = s.heap := ⟨_, rfl⟩
  rw [show (Hp g S s s.heap []) = Hp g S s H [] by rw [hHe]] at hH
  rw [← hHe]
  refine lv_aload_n zx zb dX2_move_0 rfl (lv_at hl 0 rfl) ?_
  refine gf_X2_9 C0 hH dX2_move_1 ?_
  refine lv_iload_n zx zb dX2_move_4 rfl (lv_at hl 1 rfl) ?_
  refine lv_iload_n zx zb dX2_move_5 rfl (lv_at hl 2 rfl) ?_
  refine as_2 C0 hH (by omega) (by omega) dX2_move_6 (fun H locs hH => ?_)
  refine lv_aload_n zx zb dX2_move_7 rfl (lv_at hl 0 rfl) ?_
  refine gf_X2_15 C0 hH dX2_move_8 ?_
  refine lv_iload_n zx zb dX2_move_11 rfl (lv_at hl 1 rfl) ?_
  refine lv_iload_n zx zb dX2_move_12 rfl (lv_at hl 3 rfl) ?_
  refine as_3 C0 hH (by omega) (by omega) dX2_move_13 (fun H locs hH => ?_)
  exact retV C0 hret hlk hH (rfl) dX2_move_14
set_option maxRecDepth 100000 in
set_option maxHeartbeats 4000000 in
theorem c_X2_append (l : Launch) (g : gT) (S : gSt) (a u : Int) (hn : 0 ≤ S 1 0 ∧ S 1 0 < 24) : MetG l g yX2_append cX2_append 4 (some .int) 1 23 [.ref (g.1 1), .int (iI a), .int (iI u)] S (some (.int (iI (S 1 0)))) (adS S a u) := by
  refine bodyG (by decide +kernel) (Nat.le_of_ble_eq_true rfl) ?_
  intro p e s m args below meth c ls C0 hret hlk hl hH
  have zx := C0.1
  have zb := C0.2.1
  have hl : lv_has ls 4 [(0, .ref (g.1 1)), (1, .int (iI a)), (2, .int (iI u))] := hl
  obtain ⟨H, hHe⟩ : ∃ H : Heap, H = s.heap := ⟨_, rfl⟩
  rw [show (Hp g S s s.heap []) = Hp g S s H [] by rw [hHe]] at hH
  rw [← hHe]
  refine lv_aload_n zx zb dX2_append_0 rfl (lv_at hl 0 rfl) ?_
  refine gf_X2_18 C0 hH dX2_append_1 ?_
  refine lv_istore_n (lv' := [(3, .int (iI (S 1 0))), (0, .ref (g.1 1)), (1, .int (iI a)), (2, .int (iI u))]) zx zb dX2_append_4 rfl hl (by decide) rfl (fun ls hl => ?_)
  refine lv_iload_n zx zb dX2_append_5 rfl (lv_at hl 0 rfl) ?_
  refine bi_bip (n := 24) zx zb dX2_append_6 (by decide) ?_
  refine bq_ge (tgt := 28) zx zb dX2_append_8 (by decide) ⟨by omega, by omega⟩ ⟨by omega, by omega⟩ (fun zq8 => ?_) (fun zq8 => ?_)
  · exact absurd zq8 (by omega)
  · refine lv_aload_n zx zb dX2_append_11 rfl (lv_at hl 1 rfl) ?_
    refine lv_iload_n zx zb dX2_append_12 rfl (lv_at hl 0 rfl) ?_
    refine lv_iload_n zx zb dX2_append_13 rfl (lv_at hl 2 rfl) ?_
    refine lv_iload_n zx zb dX2_append_14 rfl (lv_at hl 3 rfl) ?_
    refine cvN (rest := []) (As := [.int (iI (S 1 0)), .int (iI a), .int (iI u)]) (b := g.1 1) C0 hH (c_X2_move l g S (S 1 0) a u (by omega)) kw_X2_22 ky_X2_move ⟨Nat.le_of_ble_eq_true rfl, Nat.le_of_ble_eq_true rfl⟩ ⟨Nat.zero_le _, Nat.zero_le _⟩ 1 rfl rfl rfl hl.1 rfl (Nat.le_of_ble_eq_true rfl) dX2_append_15 (fun H locs hH => ?_)
    refine lv_aload_n zx zb dX2_append_18 rfl (lv_at hl 1 rfl) ?_
    refine lv_dup zx zb dX2_append_19 rfl ?_
    refine gf_X2_18 C0 hH dX2_append_20 ?_
    show W p l e _ s m args below meth c H _ _ _ _ (F0 m 23 ls [.int (iI (S 1 0)), .ref (g.1 1)])
    refine bi_const (n := 1) zx zb dX2_append_23 ?_
    refine bi_add zx zb dX2_append_24 ?_
    refine pf_X2_18 C0 hH dX2_append_25 (fun H locs hH => ?_)
    refine lv_iload_n zx zb dX2_append_28 rfl (lv_at hl 0 rfl) ?_
    exact retI C0 hret hlk hH (by rfl) (rfl) dX2_append_29
set_option maxRecDepth 100000 in
set_option maxHeartbeats 4000000 in
theorem c_X2_spansOverlap (l : Launch) (g : gT) (S : gSt) (a b y t : Int) (ha : -400 ≤ a ∧ a < 400) (hb : -400 ≤ b ∧ b < 400) (hc : -400 ≤ y ∧ y < 400) (hd : -400 ≤ t ∧ t < 400) : MetG l g yX2_spansOverlap cX2_spansOverlap 4 (some .boolean) 1 21 [.int (iI a), .int (iI b), .int (iI y), .int (iI t)] S (some (.int (iI (if spB a b y t = true then 1 else 0)))) S := by
  refine bodyG (by decide +kernel) (Nat.le_of_ble_eq_true rfl) ?_
  intro p e s m args below meth c ls C0 hret hlk hl hH
  have zx := C0.1
  have zb := C0.2.1
  have hl : lv_has ls 4 [(0, .int (iI a)), (1, .int (iI b)), (2, .int (iI y)), (3, .int (iI t))] := hl
  obtain ⟨H, hHe⟩ : ∃ H : Heap, H = s.heap := ⟨_, rfl⟩
  rw [show (Hp g S s s.heap []) = Hp g S s H [] by rw [hHe]] at hH
  rw [← hHe]
  refine lv_iload_n zx zb dX2_spansOverlap_0 rfl (lv_at hl 0 rfl) ?_
  refine lv_iload_n zx zb dX2_spansOverlap_1 rfl (lv_at hl 1 rfl) ?_
  refine csI (rest := []) (As := [.int (iI a), .int (iI b)]) C0 hH (c_J9_max_7cf53 l g S a b (by omega) (by omega)) kw_X2_48 ky_J9_max_7cf53 ⟨Nat.le_of_ble_eq_true rfl, Nat.le_of_ble_eq_true rfl⟩ ⟨Nat.zero_le _, Nat.zero_le _⟩ rfl hl.1 rfl (Nat.le_of_ble_eq_true rfl) dX2_spansOverlap_2 (fun H locs hH => ?_)
  refine lv_iload_n zx zb dX2_spansOverlap_5 rfl (lv_at hl 2 rfl) ?_
  refine lv_iload_n zx zb dX2_spansOverlap_6 rfl (lv_at hl 3 rfl) ?_
  refine csI (rest := [.int (iI (max a b))]) (As := [.int (iI y), .int (iI t)]) C0 hH (c_J9_min_7cf53 l g S y t (by omega) (by omega)) kw_X2_51 ky_J9_min_7cf53 ⟨Nat.le_of_ble_eq_true rfl, Nat.le_of_ble_eq_true rfl⟩ ⟨Nat.zero_le _, Nat.zero_le _⟩ rfl hl.1 rfl (Nat.le_of_ble_eq_true rfl) dX2_spansOverlap_7 (fun H locs hH => ?_)
  refine bq_lt (tgt := 30) zx zb dX2_spansOverlap_10 (by decide) ⟨by omega, by omega⟩ ⟨by omega, by omega⟩ (fun zq10 => ?_) (fun zq10 => ?_)
  · refine bi_const (n := 0) zx zb dX2_spansOverlap_30 ?_
    exact retZ C0 hret hlk hH (by unfold spB; first | (rw [if_pos (by simp; omega)]; done) | (rw [if_neg (by simp; omega)]; done)) (by omega) (rfl) dX2_spansOverlap_31
  · refine lv_iload_n zx zb dX2_spansOverlap_13 rfl (lv_at hl 2 rfl) ?_
    refine lv_iload_n zx zb dX2_spansOverlap_14 rfl (lv_at hl 3 rfl) ?_
    refine csI (rest := []) (As := [.int (iI y), .int (iI t)]) C0 hH (c_J9_max_7cf53 l g S y t (by omega) (by omega)) kw_X2_48 ky_J9_max_7cf53 ⟨Nat.le_of_ble_eq_true rfl, Nat.le_of_ble_eq_true rfl⟩ ⟨Nat.zero_le _, Nat.zero_le _⟩ rfl hl.1 rfl (Nat.le_of_ble_eq_true rfl) dX2_spansOverlap_15 (fun H locs hH => ?_)
    refine lv_iload_n zx zb dX2_spansOverlap_18 rfl (lv_at hl 0 rfl) ?_
    refine lv_iload_n zx zb dX2_spansOverlap_19 rfl (lv_at hl 1 rfl) ?_
    refine csI (rest := [.int (iI (max y t))]) (As := [.int (iI a), .int (iI b)]) C0 hH (c_J9_min_7cf53 l g S a b (by omega) (by omega)) kw_X2_51 ky_J9_min_7cf53 ⟨Nat.le_of_ble_eq_true rfl, Nat.le_of_ble_eq_true rfl⟩ ⟨Nat.zero_le _, Nat.zero_le _⟩ rfl hl.1 rfl (Nat.le_of_ble_eq_true rfl) dX2_spansOverlap_20 (fun H locs hH => ?_)
    refine bq_lt (tgt := 30) zx zb dX2_spansOverlap_23 (by decide) ⟨by omega, by omega⟩ ⟨by omega, by omega⟩ (fun zq23 => ?_) (fun zq23 => ?_)
    · refine bi_const (n := 0) zx zb dX2_spansOverlap_30 ?_
      exact retZ C0 hret hlk hH (by unfold spB; first | (rw [if_pos (by simp; omega)]; done) | (rw [if_neg (by simp; omega)]; done)) (by omega) (rfl) dX2_spansOverlap_31
    · refine bi_const (n := 1) zx zb dX2_spansOverlap_26 ?_
      refine lv_goto (tgt := 31) zx zb dX2_spansOverlap_27 (by decide) ?_
      exact retZ C0 hret hlk hH (by unfold spB; first | (rw [if_pos (by simp; omega)]; done) | (rw [if_neg (by simp; omega)]; done)) (by omega) (rfl) dX2_spansOverlap_31
set_option maxRecDepth 100000 in
set_option maxHeartbeats 4000000 in
theorem c_X2_sideOf (l : Launch) (g : gT) (S : gSt) (a b y : Int) (ha : 0 ≤ a ∧ a < 24) (hb : 0 ≤ b ∧ b < 24) (hc : 0 ≤ y ∧ y < 24) (hC : okC (S 2) (S 3)) : MetG l g yX2_sideOf cX2_sideOf 4 (some .int) 1 21 [.ref (g.1 1), .int (iI a), .int (iI b), .int (iI y)] S (some (.int (iI (sdI (S 2) (S 3) a b y)))) S := by
  refine bodyG (by decide +kernel) (Nat.le_of_ble_eq_true rfl) ?_
  intro p e s m args below meth c ls C0 hret hlk hl hH
  have zx := C0.1
  have zb := C0.2.1
  have hl : lv_has ls 4 [(0, .ref (g.1 1)), (1, .int (iI a)), (2, .int (iI b)), (3, .int (iI y))] := hl
  obtain ⟨H, hHe⟩ : ∃ H : Heap, H = s.heap := ⟨_, rfl⟩
  rw [show (Hp g S s s.heap []) = Hp g S s H [] by rw [hHe]] at hH
  rw [← hHe]
  have ca := hC a ha.1 ha.2
  have cb := hC b hb.1 hb.2
  have cc1 := hC y hc.1 hc.2
  have m1 := mul_b (a := S 2 b - S 2 a) (b := S 3 y - S 3 a) (A := 360) (B := 180) (by omega) (by omega) (by decide) (by decide)
  have m2 := mul_b (a := S 3 b - S 3 a) (b := S 2 y - S 2 a) (A := 180) (B := 360) (by omega) (by omega) (by decide) (by decide)
  refine lv_aload_n zx zb dX2_sideOf_0 rfl (lv_at hl 0 rfl) ?_
  refine gf_X2_9 C0 hH dX2_sideOf_1 ?_
  refine lv_iload_n zx zb dX2_sideOf_4 rfl (lv_at hl 2 rfl) ?_
  refine al_2 C0 hH (by omega) (by omega) dX2_sideOf_5 ?_
  refine lv_aload_n zx zb dX2_sideOf_6 rfl (lv_at hl 0 rfl) ?_
  refine gf_X2_9 C0 hH dX2_sideOf_7 ?_
  refine lv_iload_n zx zb dX2_sideOf_10 rfl (lv_at hl 1 rfl) ?_
  refine al_2 C0 hH (by omega) (by omega) dX2_sideOf_11 ?_
  refine bi_sub zx zb dX2_sideOf_12 ?_
  refine lv_aload_n zx zb dX2_sideOf_13 rfl (lv_at hl 0 rfl) ?_
  refine gf_X2_15 C0 hH dX2_sideOf_14 ?_
  refine lv_iload_n zx zb dX2_sideOf_17 rfl (lv_at hl 3 rfl) ?_
  refine al_3 C0 hH (by omega) (by omega) dX2_sideOf_18 ?_
  refine lv_aload_n zx zb dX2_sideOf_19 rfl (lv_at hl 0 rfl) ?_
  refine gf_X2_15 C0 hH dX2_sideOf_20 ?_
  refine lv_iload_n zx zb dX2_sideOf_23 rfl (lv_at hl 1 rfl) ?_
  refine al_3 C0 hH (by omega) (by omega) dX2_sideOf_24 ?_
  refine bi_sub zx zb dX2_sideOf_25 ?_
  refine bi_mul zx zb dX2_sideOf_26 ?_
  refine lv_aload_n zx zb dX2_sideOf_27 rfl (lv_at hl 0 rfl) ?_
  refine gf_X2_15 C0 hH dX2_sideOf_28 ?_
  refine lv_iload_n zx zb dX2_sideOf_31 rfl (lv_at hl 2 rfl) ?_
  refine al_3 C0 hH (by omega) (by omega) dX2_sideOf_32 ?_
  refine lv_aload_n zx zb dX2_sideOf_33 rfl (lv_at hl 0 rfl) ?_
  refine gf_X2_15 C0 hH dX2_sideOf_34 ?_
  refine lv_iload_n zx zb dX2_sideOf_37 rfl (lv_at hl 1 rfl) ?_
  refine al_3 C0 hH (by omega) (by omega) dX2_sideOf_38 ?_
  refine bi_sub zx zb dX2_sideOf_39 ?_
  refine lv_aload_n zx zb dX2_sideOf_40 rfl (lv_at hl 0 rfl) ?_
  refine gf_X2_9 C0 hH dX2_sideOf_41 ?_
  refine lv_iload_n zx zb dX2_sideOf_44 rfl (lv_at hl 3 rfl) ?_
  refine al_2 C0 hH (by omega) (by omega) dX2_sideOf_45 ?_
  refine lv_aload_n zx zb dX2_sideOf_46 rfl (lv_at hl 0 rfl) ?_
  refine gf_X2_9 C0 hH dX2_sideOf_47 ?_
  refine lv_iload_n zx zb dX2_sideOf_50 rfl (lv_at hl 1 rfl) ?_
  refine al_2 C0 hH (by omega) (by omega) dX2_sideOf_51 ?_
  refine bi_sub zx zb dX2_sideOf_52 ?_
  refine bi_mul zx zb dX2_sideOf_53 ?_
  refine csI (rest := []) (As := [.int (iI (((S 2 b) - (S 2 a)) * ((S 3 y) - (S 3 a)))), .int (iI (((S 3 b) - (S 3 a)) * ((S 2 y) - (S 2 a))))]) C0 hH (c_J6_compare_7cf53 l g S (((S 2 b) - (S 2 a)) * ((S 3 y) - (S 3 a))) (((S 3 b) - (S 3 a)) * ((S 2 y) - (S 2 a))) (by omega) (by omega)) kw_X2_58 ky_J6_compare_7cf53 ⟨Nat.le_of_ble_eq_true rfl, Nat.le_of_ble_eq_true rfl⟩ ⟨Nat.zero_le _, Nat.zero_le _⟩ rfl hl.1 rfl (Nat.le_of_ble_eq_true rfl) dX2_sideOf_54 (fun H locs hH => ?_)
  exact retI C0 hret hlk hH (by rfl) (rfl) dX2_sideOf_57
set_option maxRecDepth 100000 in
set_option maxHeartbeats 4000000 in
theorem c_X2_straddles (l : Launch) (g : gT) (S : gSt) (a b y t : Int) (ha : 0 ≤ a ∧ a < 24) (hb : 0 ≤ b ∧ b < 24) (hc : 0 ≤ y ∧ y < 24) (hd : 0 ≤ t ∧ t < 24) (hC : okC (S 2) (S 3)) : MetG l g yX2_straddles cX2_straddles 5 (some .boolean) 2 44 [.ref (g.1 1), .int (iI a), .int (iI b), .int (iI y), .int (iI t)] S (some (.int (iI (if stB (S 2) (S 3) a b y t = true then 1 else 0)))) S := by
  refine bodyG (by decide +kernel) (Nat.le_of_ble_eq_true rfl) ?_
  intro p e s m args below meth c ls C0 hret hlk hl hH
  have zx := C0.1
  have zb := C0.2.1
  have hl : lv_has ls 5 [(0, .ref (g.1 1)), (1, .int (iI a)), (2, .int (iI b)), (3, .int (iI y)), (4, .int (iI t))] := hl
  obtain ⟨H, hHe⟩ : ∃ H : Heap, H = s.heap := ⟨_, rfl⟩
  rw [show (Hp g S s s.heap []) = Hp g S s H [] by rw [hHe]] at hH
  rw [← hHe]
  have m1 := mul_b (sdI_b (S 2) (S 3) a b y) (sdI_b (S 2) (S 3) a b t) (by decide) (by decide)
  refine lv_aload_n zx zb dX2_straddles_0 rfl (lv_at hl 0 rfl) ?_
  refine lv_iload_n zx zb dX2_straddles_1 rfl (lv_at hl 1 rfl) ?_
  refine lv_iload_n zx zb dX2_straddles_2 rfl (lv_at hl 2 rfl) ?_
  refine lv_iload_n zx zb dX2_straddles_3 rfl (lv_at hl 3 rfl) ?_
  refine cvI (rest := []) (As := [.int (iI a), .int (iI b), .int (iI y)]) (b := g.1 1) C0 hH (c_X2_sideOf l g S a b y (by omega) (by omega) (by omega) (by omega)) kw_X2_54 ky_X2_sideOf ⟨Nat.le_of_ble_eq_true rfl, Nat.le_of_ble_eq_true rfl⟩ ⟨Nat.zero_le _, Nat.zero_le _⟩ 1 rfl rfl rfl hl.1 rfl (Nat.le_of_ble_eq_true rfl) dX2_straddles_4 (fun H locs hH => ?_)
  refine lv_aload_n zx zb dX2_straddles_7 rfl (lv_at hl 0 rfl) ?_
  refine lv_iload_n zx zb dX2_straddles_8 rfl (lv_at hl 1 rfl) ?_
  refine lv_iload_n zx zb dX2_straddles_9 rfl (lv_at hl 2 rfl) ?_
  refine lv_iload zx zb dX2_straddles_10 (lv_at hl 4 rfl) ?_
  refine cvI (rest := [.int (iI (sdI (S 2) (S 3) a b y))]) (As := [.int (iI a), .int (iI b), .int (iI t)]) (b := g.1 1) C0 hH (c_X2_sideOf l g S a b t (by omega) (by omega) (by omega) (by omega)) kw_X2_54 ky_X2_sideOf ⟨Nat.le_of_ble_eq_true rfl, Nat.le_of_ble_eq_true rfl⟩ ⟨Nat.zero_le _, Nat.zero_le _⟩ 1 rfl rfl rfl hl.1 rfl (Nat.le_of_ble_eq_true rfl) dX2_straddles_12 (fun H locs hH => ?_)
  refine bi_mul zx zb dX2_straddles_15 ?_
  refine bz_gt (tgt := 23) zx zb dX2_straddles_16 (by decide) ⟨by omega, by omega⟩ (fun zq16 => ?_) (fun zq16 => ?_)
  · refine bi_const (n := 0) zx zb dX2_straddles_23 ?_
    exact retZ C0 hret hlk hH (by unfold stB; first | (rw [if_pos (by simp; omega)]; done) | (rw [if_neg (by simp; omega)]; done)) (by omega) (rfl) dX2_straddles_24
  · refine bi_const (n := 1) zx zb dX2_straddles_19 ?_
    refine lv_goto (tgt := 24) zx zb dX2_straddles_20 (by decide) ?_
    exact retZ C0 hret hlk hH (by unfold stB; first | (rw [if_pos (by simp; omega)]; done) | (rw [if_neg (by simp; omega)]; done)) (by omega) (rfl) dX2_straddles_24
set_option maxRecDepth 100000 in
set_option maxHeartbeats 4000000 in
theorem c_X2_meet (l : Launch) (g : gT) (S : gSt) (a b y t : Int) (ha : 0 ≤ a ∧ a < 24) (hb : 0 ≤ b ∧ b < 24) (hc : 0 ≤ y ∧ y < 24) (hd : 0 ≤ t ∧ t < 24) (hC : okC (S 2) (S 3)) : MetG l g yX2_meet cX2_meet 5 (some .boolean) 3 68 [.ref (g.1 1), .int (iI a), .int (iI b), .int (iI y), .int (iI t)] S (some (.int (iI (if meB (S 2) (S 3) a b y t = true then 1 else 0)))) S := by
  refine bodyG (by decide +kernel) (Nat.le_of_ble_eq_true rfl) ?_
  intro p e s m args below meth c ls C0 hret hlk hl hH
  have zx := C0.1
  have zb := C0.2.1
  have hl : lv_has ls 5 [(0, .ref (g.1 1)), (1, .int (iI a)), (2, .int (iI b)), (3, .int (iI y)), (4, .int (iI t))] := hl
  obtain ⟨H, hHe⟩ : ∃ H : Heap, H = s.heap := ⟨_, rfl⟩
  rw [show (Hp g S s s.heap []) = Hp g S s H [] by rw [hHe]] at hH
  rw [← hHe]
  have ca := hC a ha.1 ha.2
  have cb := hC b hb.1 hb.2
  have cc1 := hC y hc.1 hc.2
  have cd := hC t hd.1 hd.2
  refine lv_aload_n zx zb dX2_meet_0 rfl (lv_at hl 0 rfl) ?_
  refine gf_X2_9 C0 hH dX2_meet_1 ?_
  refine lv_iload_n zx zb dX2_meet_4 rfl (lv_at hl 1 rfl) ?_
  refine al_2 C0 hH (by omega) (by omega) dX2_meet_5 ?_
  refine lv_aload_n zx zb dX2_meet_6 rfl (lv_at hl 0 rfl) ?_
  refine gf_X2_9 C0 hH dX2_meet_7 ?_
  refine lv_iload_n zx zb dX2_meet_10 rfl (lv_at hl 2 rfl) ?_
  refine al_2 C0 hH (by omega) (by omega) dX2_meet_11 ?_
  refine lv_aload_n zx zb dX2_meet_12 rfl (lv_at hl 0 rfl) ?_
  refine gf_X2_9 C0 hH dX2_meet_13 ?_
  refine lv_iload_n zx zb dX2_meet_16 rfl (lv_at hl 3 rfl) ?_
  refine al_2 C0 hH (by omega) (by omega) dX2_meet_17 ?_
  refine lv_aload_n zx zb dX2_meet_18 rfl (lv_at hl 0 rfl) ?_
  refine gf_X2_9 C0 hH dX2_meet_19 ?_
  refine lv_iload zx zb dX2_meet_22 (lv_at hl 4 rfl) ?_
  refine al_2 C0 hH (by omega) (by omega) dX2_meet_24 ?_
  refine csI (rest := []) (As := [.int (iI (S 2 a)), .int (iI (S 2 b)), .int (iI (S 2 y)), .int (iI (S 2 t))]) C0 hH (c_X2_spansOverlap l g S (S 2 a) (S 2 b) (S 2 y) (S 2 t) (by omega) (by omega) (by omega) (by omega)) kw_X2_41 ky_X2_spansOverlap ⟨Nat.le_of_ble_eq_true rfl, Nat.le_of_ble_eq_true rfl⟩ ⟨Nat.zero_le _, Nat.zero_le _⟩ rfl hl.1 rfl (Nat.le_of_ble_eq_true rfl) dX2_meet_25 (fun H locs hH => ?_)
  have hq28 := brg (spB (S 2 a) (S 2 b) (S 2 y) (S 2 t))
  refine bz_eq (tgt := 90) zx zb dX2_meet_28 (by decide) ⟨by omega, by omega⟩ (fun zq28 => ?_) (fun zq28 => ?_)
  · refine bi_const (n := 0) zx zb dX2_meet_90 ?_
    exact retZ C0 hret hlk hH (by unfold meB; first | (rw [b0 zq28]; simp; done) | (rw [b0 zq59]; simp; done) | (rw [b0 zq71]; simp; done) | (rw [b0 zq83]; simp; done) | (rw [b1 zq28, b1 zq59, b1 zq71, b1 zq83]; rfl)) (by omega) (rfl) dX2_meet_91
  · refine lv_aload_n zx zb dX2_meet_31 rfl (lv_at hl 0 rfl) ?_
    refine gf_X2_15 C0 hH dX2_meet_32 ?_
    refine lv_iload_n zx zb dX2_meet_35 rfl (lv_at hl 1 rfl) ?_
    refine al_3 C0 hH (by omega) (by omega) dX2_meet_36 ?_
    refine lv_aload_n zx zb dX2_meet_37 rfl (lv_at hl 0 rfl) ?_
    refine gf_X2_15 C0 hH dX2_meet_38 ?_
    refine lv_iload_n zx zb dX2_meet_41 rfl (lv_at hl 2 rfl) ?_
    refine al_3 C0 hH (by omega) (by omega) dX2_meet_42 ?_
    refine lv_aload_n zx zb dX2_meet_43 rfl (lv_at hl 0 rfl) ?_
    refine gf_X2_15 C0 hH dX2_meet_44 ?_
    refine lv_iload_n zx zb dX2_meet_47 rfl (lv_at hl 3 rfl) ?_
    refine al_3 C0 hH (by omega) (by omega) dX2_meet_48 ?_
    refine lv_aload_n zx zb dX2_meet_49 rfl (lv_at hl 0 rfl) ?_
    refine gf_X2_15 C0 hH dX2_meet_50 ?_
    refine lv_iload zx zb dX2_meet_53 (lv_at hl 4 rfl) ?_
    refine al_3 C0 hH (by omega) (by omega) dX2_meet_55 ?_
    refine csI (rest := []) (As := [.int (iI (S 3 a)), .int (iI (S 3 b)), .int (iI (S 3 y)), .int (iI (S 3 t))]) C0 hH (c_X2_spansOverlap l g S (S 3 a) (S 3 b) (S 3 y) (S 3 t) (by omega) (by omega) (by omega) (by omega)) kw_X2_41 ky_X2_spansOverlap ⟨Nat.le_of_ble_eq_true rfl, Nat.le_of_ble_eq_true rfl⟩ ⟨Nat.zero_le _, Nat.zero_le _⟩ rfl hl.1 rfl (Nat.le_of_ble_eq_true rfl) dX2_meet_56 (fun H locs hH => ?_)
    have hq59 := brg (spB (S 3 a) (S 3 b) (S 3 y) (S 3 t))
    refine bz_eq (tgt := 90) zx zb dX2_meet_59 (by decide) ⟨by omega, by omega⟩ (fun zq59 => ?_) (fun zq59 => ?_)
    · refine bi_const (n := 0) zx zb dX2_meet_90 ?_
      exact retZ C0 hret hlk hH (by unfold meB; first | (rw [b0 zq28]; simp; done) | (rw [b0 zq59]; simp; done) | (rw [b0 zq71]; simp; done) | (rw [b0 zq83]; simp; done) | (rw [b1 zq28, b1 zq59, b1 zq71, b1 zq83]; rfl)) (by omega) (rfl) dX2_meet_91
    · refine lv_aload_n zx zb dX2_meet_62 rfl (lv_at hl 0 rfl) ?_
      refine lv_iload_n zx zb dX2_meet_63 rfl (lv_at hl 1 rfl) ?_
      refine lv_iload_n zx zb dX2_meet_64 rfl (lv_at hl 2 rfl) ?_
      refine lv_iload_n zx zb dX2_meet_65 rfl (lv_at hl 3 rfl) ?_
      refine lv_iload zx zb dX2_meet_66 (lv_at hl 4 rfl) ?_
      refine cvI (rest := []) (As := [.int (iI a), .int (iI b), .int (iI y), .int (iI t)]) (b := g.1 1) C0 hH (c_X2_straddles l g S a b y t (by omega) (by omega) (by omega) (by omega) (by omega)) kw_X2_45 ky_X2_straddles ⟨Nat.le_of_ble_eq_true rfl, Nat.le_of_ble_eq_true rfl⟩ ⟨Nat.zero_le _, Nat.zero_le _⟩ 1 rfl rfl rfl hl.1 rfl (Nat.le_of_ble_eq_true rfl) dX2_meet_68 (fun H locs hH => ?_)
      have hq71 := brg (stB (S 2) (S 3) a b y t)
      refine bz_eq (tgt := 90) zx zb dX2_meet_71 (by decide) ⟨by omega, by omega⟩ (fun zq71 => ?_) (fun zq71 => ?_)
      · refine bi_const (n := 0) zx zb dX2_meet_90 ?_
        exact retZ C0 hret hlk hH (by unfold meB; first | (rw [b0 zq28]; simp; done) | (rw [b0 zq59]; simp; done) | (rw [b0 zq71]; simp; done) | (rw [b0 zq83]; simp; done) | (rw [b1 zq28, b1 zq59, b1 zq71, b1 zq83]; rfl)) (by omega) (rfl) dX2_meet_91
      · refine lv_aload_n zx zb dX2_meet_74 rfl (lv_at hl 0 rfl) ?_
        refine lv_iload_n zx zb dX2_meet_75 rfl (lv_at hl 3 rfl) ?_
        refine lv_iload zx zb dX2_meet_76 (lv_at hl 4 rfl) ?_
        refine lv_iload_n zx zb dX2_meet_78 rfl (lv_at hl 1 rfl) ?_
        refine lv_iload_n zx zb dX2_meet_79 rfl (lv_at hl 2 rfl) ?_
        refine cvI (rest := []) (As := [.int (iI y), .int (iI t), .int (iI a), .int (iI b)]) (b := g.1 1) C0 hH (c_X2_straddles l g S y t a b (by omega) (by omega) (by omega) (by omega) (by omega)) kw_X2_45 ky_X2_straddles ⟨Nat.le_of_ble_eq_true rfl, Nat.le_of_ble_eq_true rfl⟩ ⟨Nat.zero_le _, Nat.zero_le _⟩ 1 rfl rfl rfl hl.1 rfl (Nat.le_of_ble_eq_true rfl) dX2_meet_80 (fun H locs hH => ?_)
        have hq83 := brg (stB (S 2) (S 3) y t a b)
        refine bz_eq (tgt := 90) zx zb dX2_meet_83 (by decide) ⟨by omega, by omega⟩ (fun zq83 => ?_) (fun zq83 => ?_)
        · refine bi_const (n := 0) zx zb dX2_meet_90 ?_
          exact retZ C0 hret hlk hH (by unfold meB; first | (rw [b0 zq28]; simp; done) | (rw [b0 zq59]; simp; done) | (rw [b0 zq71]; simp; done) | (rw [b0 zq83]; simp; done) | (rw [b1 zq28, b1 zq59, b1 zq71, b1 zq83]; rfl)) (by omega) (rfl) dX2_meet_91
        · refine bi_const (n := 1) zx zb dX2_meet_86 ?_
          refine lv_goto (tgt := 91) zx zb dX2_meet_87 (by decide) ?_
          exact retZ C0 hret hlk hH (by unfold meB; first | (rw [b0 zq28]; simp; done) | (rw [b0 zq59]; simp; done) | (rw [b0 zq71]; simp; done) | (rw [b0 zq83]; simp; done) | (rw [b1 zq28, b1 zq59, b1 zq71, b1 zq83]; rfl)) (by omega) (rfl) dX2_meet_91
end
section
set_option maxRecDepth 100000 in
set_option maxHeartbeats 4000000 in
theorem c_X5_place (l : Launch) (g : gT) (S : gSt) (f k : Int)  : MetG l g yX5_place cX5_place 2 (some .int) 0 0 [.int (iI f), .int (iI k)] S (some (.int (iI (10 * f + k)))) S := by
  refine bodyG (by decide +kernel) (Nat.le_of_ble_eq_true rfl) ?_
  intro p e s m args below meth c ls C0 hret hlk hl hH
  have zx := C0.1
  have zb := C0.2.1
  have hl : lv_has ls 2 [(0, .int (iI f)), (1, .int (iI k))] := hl
  obtain ⟨H, hHe⟩ : ∃ H : Heap, H = s.heap := ⟨_, rfl⟩
  rw [show (Hp g S s s.heap []) = Hp g S s H [] by rw [hHe]] at hH
  rw [← hHe]
  refine lv_iload_n zx zb dX5_place_0 rfl (lv_at hl 0 rfl) ?_
  refine bi_bip (n := 10) zx zb dX5_place_1 (by decide) ?_
  refine bi_mul zx zb dX5_place_3 ?_
  refine lv_iload_n zx zb dX5_place_4 rfl (lv_at hl 1 rfl) ?_
  refine bi_add zx zb dX5_place_5 ?_
  exact retI C0 hret hlk hH (by omega) (rfl) dX5_place_6
set_option maxRecDepth 100000 in
set_option maxHeartbeats 4000000 in
theorem c_X5_appendFigure (l : Launch) (g : gT) (S : gSt) (hn : 0 ≤ S 4 0 ∧ S 4 0 < 8) : MetG l g yX5_appendFigure cX5_appendFigure 2 (some .int) 0 0 [.ref (g.1 4)] S (some (.int (iI (S 4 0)))) (st S 4 0 (S 4 0 + 1)) := by
  refine bodyG (by decide +kernel) (Nat.le_of_ble_eq_true rfl) ?_
  intro p e s m args below meth c ls C0 hret hlk hl hH
  have zx := C0.1
  have zb := C0.2.1
  have hl : lv_has ls 2 [(0, .ref (g.1 4))] := hl
  obtain ⟨H, hHe⟩ : ∃ H : Heap, H = s.heap := ⟨_, rfl⟩
  rw [show (Hp g S s s.heap []) = Hp g S s H [] by rw [hHe]] at hH
  rw [← hHe]
  refine lv_aload_n zx zb dX5_appendFigure_0 rfl (lv_at hl 0 rfl) ?_
  refine gf_X5_21 C0 hH dX5_appendFigure_1 ?_
  refine lv_istore_n (lv' := [(1, .int (iI (S 4 0))), (0, .ref (g.1 4))]) zx zb dX5_appendFigure_4 rfl hl (by decide) rfl (fun ls hl => ?_)
  refine lv_iload_n zx zb dX5_appendFigure_5 rfl (lv_at hl 0 rfl) ?_
  refine bi_bip (n := 8) zx zb dX5_appendFigure_6 (by decide) ?_
  refine bq_ge (tgt := 21) zx zb dX5_appendFigure_8 (by decide) ⟨by omega, by omega⟩ ⟨by omega, by omega⟩ (fun zq8 => ?_) (fun zq8 => ?_)
  · exact absurd zq8 (by omega)
  · refine lv_aload_n zx zb dX5_appendFigure_11 rfl (lv_at hl 1 rfl) ?_
    refine lv_dup zx zb dX5_appendFigure_12 rfl ?_
    refine gf_X5_21 C0 hH dX5_appendFigure_13 ?_
    refine bi_const (n := 1) zx zb dX5_appendFigure_16 ?_
    refine bi_add zx zb dX5_appendFigure_17 ?_
    refine pf_X5_21 C0 hH dX5_appendFigure_18 (fun H locs hH => ?_)
    refine lv_iload_n zx zb dX5_appendFigure_21 rfl (lv_at hl 0 rfl) ?_
    exact retI C0 hret hlk hH (by rfl) (rfl) dX5_appendFigure_22
set_option maxRecDepth 100000 in
set_option maxHeartbeats 4000000 in
theorem c_X5_hasStar (l : Launch) (g : gT) (S : gSt) (f z : Int) (hf : 0 ≤ f ∧ f < 8) (hz : 0 ≤ z ∧ z < 24) (hN : okN (S 5)) (hE : okE (S 5) (S 6)) (hO : okE (S 5) (S 7)) : MetG l g yX5_hasStar cX5_hasStar 5 (some .boolean) 1 21 [.ref (g.1 4), .int (iI f), .int (iI z)] S (some (.int (iI (if hsB (S 5) (S 6) (S 7) f z = true then 1 else 0)))) S := by
  refine bodyG (by decide +kernel) (Nat.le_of_ble_eq_true rfl) ?_
  intro p e s m args below meth c ls C0 hret hlk hl hH
  have zx := C0.1
  have zb := C0.2.1
  have hl : lv_has ls 5 [(0, .ref (g.1 4)), (1, .int (iI f)), (2, .int (iI z))] := hl
  have L2 : ∀ (μ : Nat) (i : Int), (S 5 f - i).toNat = μ → (0 ≤ i ∧ i ≤ S 5 f) → (hsB (S 5) (S 6) (S 7) f z = exF (hsQ (S 6) (S 7) z) (S 5 f - i).toNat (10 * f + i)) → ∀ (H : Heap) (locs : List Loc), Hp g S s H locs → ∀ ls : Array Slot, lv_has ls 5 [(0, .ref (g.1 4)), (1, .int (iI f)), (2, .int (iI z)), (3, .int (iI i))] → W p l e { frames := 1, cells := 0, slots := 0, locals := 21 } s m args below meth c H locs 0 0 (MQ below (RetG g (some (.int (iI (if hsB (S 5) (S 6) (S 7) f z = true then 1 else 0)))) S) args s 0 0 (oA g)) (F0 m 2 ls []) := by
    refine lpN (fun μ2 ih2 => ?_)
    intro i hμ2 hi hR H locs hH ls hl
    have hn := hN f hf.1 hf.2
    refine lv_iload_n zx zb dX5_hasStar_2 rfl (lv_at hl 3 rfl) ?_
    refine lv_aload_n zx zb dX5_hasStar_3 rfl (lv_at hl 0 rfl) ?_
    refine gf_X5_9 C0 hH dX5_hasStar_4 ?_
    refine lv_iload_n zx zb dX5_hasStar_7 rfl (lv_at hl 1 rfl) ?_
    refine al_5 C0 hH (by omega) (by omega) dX5_hasStar_8 ?_
    refine bq_ge (tgt := 49) zx zb dX5_hasStar_9 (by decide) ⟨by omega, by omega⟩ ⟨by omega, by omega⟩ (fun zq9 => ?_) (fun zq9 => ?_)
    · refine bi_const (n := 0) zx zb dX5_hasStar_49 ?_
      exact retZ C0 hret hlk hH (by rw [hR, exF_e2 (by omega)]; rfl) (by omega) (rfl) dX5_hasStar_50
    · have he := hE f i hf.1 hf.2 (by omega) (by omega)
      have ho := hO f i hf.1 hf.2 (by omega) (by omega)
      refine lv_iload_n zx zb dX5_hasStar_12 rfl (lv_at hl 1 rfl) ?_
      refine lv_iload_n zx zb dX5_hasStar_13 rfl (lv_at hl 3 rfl) ?_
      refine csI (rest := []) (As := [.int (iI f), .int (iI i)]) C0 hH (c_X5_place l g S f i) kw_X5_25 ky_X5_place ⟨Nat.le_of_ble_eq_true rfl, Nat.le_of_ble_eq_true rfl⟩ ⟨Nat.zero_le _, Nat.zero_le _⟩ rfl hl.1 rfl (Nat.le_of_ble_eq_true rfl) dX5_hasStar_14 (fun H locs hH => ?_)
      refine lv_istore (lv' := [(4, .int (iI (10 * f + i))), (0, .ref (g.1 4)), (1, .int (iI f)), (2, .int (iI z)), (3, .int (iI i))]) zx zb dX5_hasStar_17 hl (by decide) rfl (fun ls hl => ?_)
      refine lv_aload_n zx zb dX5_hasStar_19 rfl (lv_at hl 1 rfl) ?_
      refine gf_X5_15 C0 hH dX5_hasStar_20 ?_
      refine lv_iload zx zb dX5_hasStar_23 (lv_at hl 0 rfl) ?_
      refine al_6 C0 hH (by omega) (by omega) dX5_hasStar_25 ?_
      refine lv_iload_n zx zb dX5_hasStar_26 rfl (lv_at hl 3 rfl) ?_
      refine bq_eq (tgt := 41) zx zb dX5_hasStar_27 (by decide) ⟨by omega, by omega⟩ ⟨by omega, by omega⟩ (fun zq27 => ?_) (fun zq27 => ?_)
      · refine bi_const (n := 1) zx zb dX5_hasStar_41 ?_
        exact retZ C0 hret hlk hH (by rw [hR, exF_f zq9 (by first | (simp [hsQ, zq27]; done) | (simp [hsQ, zq38]; done))]; rfl) (by omega) (rfl) dX5_hasStar_42
      · refine lv_aload_n zx zb dX5_hasStar_30 rfl (lv_at hl 1 rfl) ?_
        refine gf_X5_18 C0 hH dX5_hasStar_31 ?_
        refine lv_iload zx zb dX5_hasStar_34 (lv_at hl 0 rfl) ?_
        refine al_7 C0 hH (by omega) (by omega) dX5_hasStar_36 ?_
        refine lv_iload_n zx zb dX5_hasStar_37 rfl (lv_at hl 3 rfl) ?_
        refine bq_ne (tgt := 43) zx zb dX5_hasStar_38 (by decide) ⟨by omega, by omega⟩ ⟨by omega, by omega⟩ (fun zq38 => ?_) (fun zq38 => ?_)
        · refine bi_inc (k0 := 4) (n := 1) (lv' := [(3, .int (iI (i + 1))), (4, .int (iI (10 * f + i))), (0, .ref (g.1 4)), (1, .int (iI f)), (2, .int (iI z))]) zx zb dX5_hasStar_43 hl rfl (by decide) rfl (fun ls hl => ?_)
          refine lv_goto (tgt := 2) zx zb dX5_hasStar_46 (by decide) ?_
          exact ih2 ((S 5 f - (i + 1)).toNat) (by omega) (i + 1) rfl (by omega) (by rw [hR, exF_t zq9 (by simp [hsQ, zq27, zq38]), Int.add_assoc]) _ _ hH ls (lv_sub hl [2, 3, 4, 0] rfl)
        · refine bi_const (n := 1) zx zb dX5_hasStar_41 ?_
          exact retZ C0 hret hlk hH (by rw [hR, exF_f zq9 (by first | (simp [hsQ, zq27]; done) | (simp [hsQ, zq38]; done))]; rfl) (by omega) (rfl) dX5_hasStar_42
  obtain ⟨H, hHe⟩ : ∃ H : Heap, H = s.heap := ⟨_, rfl⟩
  rw [show (Hp g S s s.heap []) = Hp g S s H [] by rw [hHe]] at hH
  rw [← hHe]
  have hn := hN f hf.1 hf.2
  refine bi_const (n := 0) zx zb dX5_hasStar_0 ?_
  refine lv_istore_n (lv' := [(3, .int (iI 0)), (0, .ref (g.1 4)), (1, .int (iI f)), (2, .int (iI z))]) zx zb dX5_hasStar_1 rfl hl (by decide) rfl (fun ls hl => ?_)
  exact L2 _ 0 rfl (by omega) (by unfold hsB; rw [Int.sub_zero, Int.add_zero]) _ _ hH ls (lv_sub hl [1, 2, 3, 0] rfl)
set_option maxRecDepth 100000 in
set_option maxHeartbeats 4000000 in
theorem c_X5_joins (l : Launch) (g : gT) (S : gSt) (f a b : Int) (hf : 0 ≤ f ∧ f < 8) (ha : 0 ≤ a ∧ a < 24) (hb : 0 ≤ b ∧ b < 24) (hN : okN (S 5)) (hE : okE (S 5) (S 6)) (hO : okE (S 5) (S 7)) : MetG l g yX5_joins cX5_joins 8 (some .boolean) 1 21 [.ref (g.1 4), .int (iI f), .int (iI a), .int (iI b)] S (some (.int (iI (if jnB (S 5) (S 6) (S 7) f a b = true then 1 else 0)))) S := by
  refine bodyG (by decide +kernel) (Nat.le_of_ble_eq_true rfl) ?_
  intro p e s m args below meth c ls C0 hret hlk hl hH
  have zx := C0.1
  have zb := C0.2.1
  have hl : lv_has ls 8 [(0, .ref (g.1 4)), (1, .int (iI f)), (2, .int (iI a)), (3, .int (iI b))] := hl
  have L3 : ∀ (μ : Nat) (i : Int), (S 5 f - i).toNat = μ → (0 ≤ i ∧ i ≤ S 5 f) → (jnB (S 5) (S 6) (S 7) f a b = exF (jnQ (S 6) (S 7) a b) (S 5 f - i).toNat (10 * f + i)) → ∀ (H : Heap) (locs : List Loc), Hp g S s H locs → ∀ ls : Array Slot, lv_has ls 8 [(0, .ref (g.1 4)), (1, .int (iI f)), (2, .int (iI a)), (3, .int (iI b)), (4, .int (iI i))] → W p l e { frames := 1, cells := 0, slots := 0, locals := 21 } s m args below meth c H locs 0 0 (MQ below (RetG g (some (.int (iI (if jnB (S 5) (S 6) (S 7) f a b = true then 1 else 0)))) S) args s 0 0 (oA g)) (F0 m 3 ls []) := by
    refine lpN (fun μ3 ih3 => ?_)
    intro i hμ3 hi hR H locs hH ls hl
    have hn := hN f hf.1 hf.2
    refine lv_iload zx zb dX5_joins_3 (lv_at hl 4 rfl) ?_
    refine lv_aload_n zx zb dX5_joins_5 rfl (lv_at hl 0 rfl) ?_
    refine gf_X5_9 C0 hH dX5_joins_6 ?_
    refine lv_iload_n zx zb dX5_joins_9 rfl (lv_at hl 1 rfl) ?_
    refine al_5 C0 hH (by omega) (by omega) dX5_joins_10 ?_
    refine bq_ge (tgt := 98) zx zb dX5_joins_11 (by decide) ⟨by omega, by omega⟩ ⟨by omega, by omega⟩ (fun zq11 => ?_) (fun zq11 => ?_)
    · refine bi_const (n := 0) zx zb dX5_joins_98 ?_
      exact retZ C0 hret hlk hH (by rw [hR, exF_e2 (by omega)]; rfl) (by omega) (rfl) dX5_joins_99
    · have he := hE f i hf.1 hf.2 (by omega) (by omega)
      have ho := hO f i hf.1 hf.2 (by omega) (by omega)
      refine lv_iload_n zx zb dX5_joins_14 rfl (lv_at hl 1 rfl) ?_
      refine lv_iload zx zb dX5_joins_15 (lv_at hl 4 rfl) ?_
      refine csI (rest := []) (As := [.int (iI f), .int (iI i)]) C0 hH (c_X5_place l g S f i) kw_X5_25 ky_X5_place ⟨Nat.le_of_ble_eq_true rfl, Nat.le_of_ble_eq_true rfl⟩ ⟨Nat.zero_le _, Nat.zero_le _⟩ rfl hl.1 rfl (Nat.le_of_ble_eq_true rfl) dX5_joins_17 (fun H locs hH => ?_)
      refine lv_istore (lv' := [(5, .int (iI (10 * f + i))), (0, .ref (g.1 4)), (1, .int (iI f)), (2, .int (iI a)), (3, .int (iI b)), (4, .int (iI i))]) zx zb dX5_joins_20 hl (by decide) rfl (fun ls hl => ?_)
      refine lv_aload_n zx zb dX5_joins_22 rfl (lv_at hl 1 rfl) ?_
      refine gf_X5_15 C0 hH dX5_joins_23 ?_
      refine lv_iload zx zb dX5_joins_26 (lv_at hl 0 rfl) ?_
      refine al_6 C0 hH (by omega) (by omega) dX5_joins_28 ?_
      refine lv_iload_n zx zb dX5_joins_29 rfl (lv_at hl 3 rfl) ?_
      refine bq_ne (tgt := 48) zx zb dX5_joins_30 (by decide) ⟨by omega, by omega⟩ ⟨by omega, by omega⟩ (fun zq30 => ?_) (fun zq30 => ?_)
      · refine bi_const (n := 0) zx zb dX5_joins_48 ?_
        refine lv_istore (lv' := [(6, .int (iI 0)), (5, .int (iI (10 * f + i))), (0, .ref (g.1 4)), (1, .int (iI f)), (2, .int (iI a)), (3, .int (iI b)), (4, .int (iI i))]) zx zb dX5_joins_49 hl (by decide) rfl (fun ls hl => ?_)
        refine lv_aload_n zx zb dX5_joins_51 rfl (lv_at hl 2 rfl) ?_
        refine gf_X5_15 C0 hH dX5_joins_52 ?_
        refine lv_iload zx zb dX5_joins_55 (lv_at hl 1 rfl) ?_
        refine al_6 C0 hH (by omega) (by omega) dX5_joins_57 ?_
        refine lv_iload_n zx zb dX5_joins_58 rfl (lv_at hl 5 rfl) ?_
        refine bq_ne (tgt := 77) zx zb dX5_joins_59 (by decide) ⟨by omega, by omega⟩ ⟨by omega, by omega⟩ (fun zq59 => ?_) (fun zq59 => ?_)
        · refine bi_const (n := 0) zx zb dX5_joins_77 ?_
          refine lv_istore (lv' := [(7, .int (iI 0)), (6, .int (iI 0)), (5, .int (iI (10 * f + i))), (0, .ref (g.1 4)), (1, .int (iI f)), (2, .int (iI a)), (3, .int (iI b)), (4, .int (iI i))]) zx zb dX5_joins_78 hl (by decide) rfl (fun ls hl => ?_)
          refine lv_iload zx zb dX5_joins_80 (lv_at hl 1 rfl) ?_
          refine bz_ne (tgt := 90) zx zb dX5_joins_82 (by decide) ⟨by omega, by omega⟩ (fun zq82 => ?_) (fun zq82 => ?_)
          · exact absurd zq82 (by decide)
          · refine lv_iload zx zb dX5_joins_85 (lv_at hl 0 rfl) ?_
            refine bz_eq (tgt := 92) zx zb dX5_joins_87 (by decide) ⟨by omega, by omega⟩ (fun zq87 => ?_) (fun zq87 => ?_)
            · refine bi_inc (k0 := 7) (n := 1) (lv' := [(4, .int (iI (i + 1))), (7, .int (iI 0)), (6, .int (iI 0)), (5, .int (iI (10 * f + i))), (0, .ref (g.1 4)), (1, .int (iI f)), (2, .int (iI a)), (3, .int (iI b))]) zx zb dX5_joins_92 hl rfl (by decide) rfl (fun ls hl => ?_)
              refine lv_goto (tgt := 3) zx zb dX5_joins_95 (by decide) ?_
              exact ih3 ((S 5 f - (i + 1)).toNat) (by omega) (i + 1) rfl (by omega) (by rw [hR, exF_t zq11 (by simp only [jnQ, *]; simp_all), Int.add_assoc]) _ _ hH ls (lv_sub hl [4, 5, 6, 7, 0] rfl)
            · exact absurd zq87 (by decide)
        · refine lv_aload_n zx zb dX5_joins_62 rfl (lv_at hl 2 rfl) ?_
          refine gf_X5_18 C0 hH dX5_joins_63 ?_
          refine lv_iload zx zb dX5_joins_66 (lv_at hl 1 rfl) ?_
          refine al_7 C0 hH (by omega) (by omega) dX5_joins_68 ?_
          refine lv_iload_n zx zb dX5_joins_69 rfl (lv_at hl 4 rfl) ?_
          refine bq_ne (tgt := 77) zx zb dX5_joins_70 (by decide) ⟨by omega, by omega⟩ ⟨by omega, by omega⟩ (fun zq70 => ?_) (fun zq70 => ?_)
          · refine bi_const (n := 0) zx zb dX5_joins_77 ?_
            refine lv_istore (lv' := [(7, .int (iI 0)), (6, .int (iI 0)), (5, .int (iI (10 * f + i))), (0, .ref (g.1 4)), (1, .int (iI f)), (2, .int (iI a)), (3, .int (iI b)), (4, .int (iI i))]) zx zb dX5_joins_78 hl (by decide) rfl (fun ls hl => ?_)
            refine lv_iload zx zb dX5_joins_80 (lv_at hl 1 rfl) ?_
            refine bz_ne (tgt := 90) zx zb dX5_joins_82 (by decide) ⟨by omega, by omega⟩ (fun zq82 => ?_) (fun zq82 => ?_)
            · exact absurd zq82 (by decide)
            · refine lv_iload zx zb dX5_joins_85 (lv_at hl 0 rfl) ?_
              refine bz_eq (tgt := 92) zx zb dX5_joins_87 (by decide) ⟨by omega, by omega⟩ (fun zq87 => ?_) (fun zq87 => ?_)
              · refine bi_inc (k0 := 7) (n := 1) (lv' := [(4, .int (iI (i + 1))), (7, .int (iI 0)), (6, .int (iI 0)), (5, .int (iI (10 * f + i))), (0, .ref (g.1 4)), (1, .int (iI f)), (2, .int (iI a)), (3, .int (iI b))]) zx zb dX5_joins_92 hl rfl (by decide) rfl (fun ls hl => ?_)
                refine lv_goto (tgt := 3) zx zb dX5_joins_95 (by decide) ?_
                exact ih3 ((S 5 f - (i + 1)).toNat) (by omega) (i + 1) rfl (by omega) (by rw [hR, exF_t zq11 (by simp only [jnQ, *]; simp_all), Int.add_assoc]) _ _ hH ls (lv_sub hl [4, 5, 6, 7, 0] rfl)
              · exact absurd zq87 (by decide)
          · refine bi_const (n := 1) zx zb dX5_joins_73 ?_
            refine lv_goto (tgt := 78) zx zb dX5_joins_74 (by decide) ?_
            refine lv_istore (lv' := [(7, .int (iI 1)), (6, .int (iI 0)), (5, .int (iI (10 * f + i))), (0, .ref (g.1 4)), (1, .int (iI f)), (2, .int (iI a)), (3, .int (iI b)), (4, .int (iI i))]) zx zb dX5_joins_78 hl (by decide) rfl (fun ls hl => ?_)
            refine lv_iload zx zb dX5_joins_80 (lv_at hl 1 rfl) ?_
            refine bz_ne (tgt := 90) zx zb dX5_joins_82 (by decide) ⟨by omega, by omega⟩ (fun zq82 => ?_) (fun zq82 => ?_)
            · exact absurd zq82 (by decide)
            · refine lv_iload zx zb dX5_joins_85 (lv_at hl 0 rfl) ?_
              refine bz_eq (tgt := 92) zx zb dX5_joins_87 (by decide) ⟨by omega, by omega⟩ (fun zq87 => ?_) (fun zq87 => ?_)
              · exact absurd zq87 (by decide)
              · refine bi_const (n := 1) zx zb dX5_joins_90 ?_
                exact retZ C0 hret hlk hH (by first | exact absurd rfl zq82 | exact absurd rfl zq85 | (rw [hR, exF_f zq11 (by simp_all [jnQ])]; rfl)) (by omega) (rfl) dX5_joins_91
      · refine lv_aload_n zx zb dX5_joins_33 rfl (lv_at hl 1 rfl) ?_
        refine gf_X5_18 C0 hH dX5_joins_34 ?_
        refine lv_iload zx zb dX5_joins_37 (lv_at hl 0 rfl) ?_
        refine al_7 C0 hH (by omega) (by omega) dX5_joins_39 ?_
        refine lv_iload_n zx zb dX5_joins_40 rfl (lv_at hl 4 rfl) ?_
        refine bq_ne (tgt := 48) zx zb dX5_joins_41 (by decide) ⟨by omega, by omega⟩ ⟨by omega, by omega⟩ (fun zq41 => ?_) (fun zq41 => ?_)
        · refine bi_const (n := 0) zx zb dX5_joins_48 ?_
          refine lv_istore (lv' := [(6, .int (iI 0)), (5, .int (iI (10 * f + i))), (0, .ref (g.1 4)), (1, .int (iI f)), (2, .int (iI a)), (3, .int (iI b)), (4, .int (iI i))]) zx zb dX5_joins_49 hl (by decide) rfl (fun ls hl => ?_)
          refine lv_aload_n zx zb dX5_joins_51 rfl (lv_at hl 2 rfl) ?_
          refine gf_X5_15 C0 hH dX5_joins_52 ?_
          refine lv_iload zx zb dX5_joins_55 (lv_at hl 1 rfl) ?_
          refine al_6 C0 hH (by omega) (by omega) dX5_joins_57 ?_
          refine lv_iload_n zx zb dX5_joins_58 rfl (lv_at hl 5 rfl) ?_
          refine bq_ne (tgt := 77) zx zb dX5_joins_59 (by decide) ⟨by omega, by omega⟩ ⟨by omega, by omega⟩ (fun zq59 => ?_) (fun zq59 => ?_)
          · refine bi_const (n := 0) zx zb dX5_joins_77 ?_
            refine lv_istore (lv' := [(7, .int (iI 0)), (6, .int (iI 0)), (5, .int (iI (10 * f + i))), (0, .ref (g.1 4)), (1, .int (iI f)), (2, .int (iI a)), (3, .int (iI b)), (4, .int (iI i))]) zx zb dX5_joins_78 hl (by decide) rfl (fun ls hl => ?_)
            refine lv_iload zx zb dX5_joins_80 (lv_at hl 1 rfl) ?_
            refine bz_ne (tgt := 90) zx zb dX5_joins_82 (by decide) ⟨by omega, by omega⟩ (fun zq82 => ?_) (fun zq82 => ?_)
            · exact absurd zq82 (by decide)
            · refine lv_iload zx zb dX5_joins_85 (lv_at hl 0 rfl) ?_
              refine bz_eq (tgt := 92) zx zb dX5_joins_87 (by decide) ⟨by omega, by omega⟩ (fun zq87 => ?_) (fun zq87 => ?_)
              · refine bi_inc (k0 := 7) (n := 1) (lv' := [(4, .int (iI (i + 1))), (7, .int (iI 0)), (6, .int (iI 0)), (5, .int (iI (10 * f + i))), (0, .ref (g.1 4)), (1, .int (iI f)), (2, .int (iI a)), (3, .int (iI b))]) zx zb dX5_joins_92 hl rfl (by decide) rfl (fun ls hl => ?_)
                refine lv_goto (tgt := 3) zx zb dX5_joins_95 (by decide) ?_
                exact ih3 ((S 5 f - (i + 1)).toNat) (by omega) (i + 1) rfl (by omega) (by rw [hR, exF_t zq11 (by simp only [jnQ, *]; simp_all), Int.add_assoc]) _ _ hH ls (lv_sub hl [4, 5, 6, 7, 0] rfl)
              · exact absurd zq87 (by decide)
          · refine lv_aload_n zx zb dX5_joins_62 rfl (lv_at hl 2 rfl) ?_
            refine gf_X5_18 C0 hH dX5_joins_63 ?_
            refine lv_iload zx zb dX5_joins_66 (lv_at hl 1 rfl) ?_
            refine al_7 C0 hH (by omega) (by omega) dX5_joins_68 ?_
            refine lv_iload_n zx zb dX5_joins_69 rfl (lv_at hl 4 rfl) ?_
            refine bq_ne (tgt := 77) zx zb dX5_joins_70 (by decide) ⟨by omega, by omega⟩ ⟨by omega, by omega⟩ (fun zq70 => ?_) (fun zq70 => ?_)
            · refine bi_const (n := 0) zx zb dX5_joins_77 ?_
              refine lv_istore (lv' := [(7, .int (iI 0)), (6, .int (iI 0)), (5, .int (iI (10 * f + i))), (0, .ref (g.1 4)), (1, .int (iI f)), (2, .int (iI a)), (3, .int (iI b)), (4, .int (iI i))]) zx zb dX5_joins_78 hl (by decide) rfl (fun ls hl => ?_)
              refine lv_iload zx zb dX5_joins_80 (lv_at hl 1 rfl) ?_
              refine bz_ne (tgt := 90) zx zb dX5_joins_82 (by decide) ⟨by omega, by omega⟩ (fun zq82 => ?_) (fun zq82 => ?_)
              · exact absurd zq82 (by decide)
              · refine lv_iload zx zb dX5_joins_85 (lv_at hl 0 rfl) ?_
                refine bz_eq (tgt := 92) zx zb dX5_joins_87 (by decide) ⟨by omega, by omega⟩ (fun zq87 => ?_) (fun zq87 => ?_)
                · refine bi_inc (k0 := 7) (n := 1) (lv' := [(4, .int (iI (i + 1))), (7, .int (iI 0)), (6, .int (iI 0)), (5, .int (iI (10 * f + i))), (0, .ref (g.1 4)), (1, .int (iI f)), (2, .int (iI a)), (3, .int (iI b))]) zx zb dX5_joins_92 hl rfl (by decide) rfl (fun ls hl => ?_)
                  refine lv_goto (tgt := 3) zx zb dX5_joins_95 (by decide) ?_
                  exact ih3 ((S 5 f - (i + 1)).toNat) (by omega) (i + 1) rfl (by omega) (by rw [hR, exF_t zq11 (by simp only [jnQ, *]; simp_all), Int.add_assoc]) _ _ hH ls (lv_sub hl [4, 5, 6, 7, 0] rfl)
                · exact absurd zq87 (by decide)
            · refine bi_const (n := 1) zx zb dX5_joins_73 ?_
              refine lv_goto (tgt := 78) zx zb dX5_joins_74 (by decide) ?_
              refine lv_istore (lv' := [(7, .int (iI 1)), (6, .int (iI 0)), (5, .int (iI (10 * f + i))), (0, .ref (g.1 4)), (1, .int (iI f)), (2, .int (iI a)), (3, .int (iI b)), (4, .int (iI i))]) zx zb dX5_joins_78 hl (by decide) rfl (fun ls hl => ?_)
              refine lv_iload zx zb dX5_joins_80 (lv_at hl 1 rfl) ?_
              refine bz_ne (tgt := 90) zx zb dX5_joins_82 (by decide) ⟨by omega, by omega⟩ (fun zq82 => ?_) (fun zq82 => ?_)
              · exact absurd zq82 (by decide)
              · refine lv_iload zx zb dX5_joins_85 (lv_at hl 0 rfl) ?_
                refine bz_eq (tgt := 92) zx zb dX5_joins_87 (by decide) ⟨by omega, by omega⟩ (fun zq87 => ?_) (fun zq87 => ?_)
                · exact absurd zq87 (by decide)
                · refine bi_const (n := 1) zx zb dX5_joins_90 ?_
                  exact retZ C0 hret hlk hH (by first | exact absurd rfl zq82 | exact absurd rfl zq85 | (rw [hR, exF_f zq11 (by simp_all [jnQ])]; rfl)) (by omega) (rfl) dX5_joins_91
        · refine bi_const (n := 1) zx zb dX5_joins_44 ?_
          refine lv_goto (tgt := 49) zx zb dX5_joins_45 (by decide) ?_
          refine lv_istore (lv' := [(6, .int (iI 1)), (5, .int (iI (10 * f + i))), (0, .ref (g.1 4)), (1, .int (iI f)), (2, .int (iI a)), (3, .int (iI b)), (4, .int (iI i))]) zx zb dX5_joins_49 hl (by decide) rfl (fun ls hl => ?_)
          refine lv_aload_n zx zb dX5_joins_51 rfl (lv_at hl 2 rfl) ?_
          refine gf_X5_15 C0 hH dX5_joins_52 ?_
          refine lv_iload zx zb dX5_joins_55 (lv_at hl 1 rfl) ?_
          refine al_6 C0 hH (by omega) (by omega) dX5_joins_57 ?_
          refine lv_iload_n zx zb dX5_joins_58 rfl (lv_at hl 5 rfl) ?_
          refine bq_ne (tgt := 77) zx zb dX5_joins_59 (by decide) ⟨by omega, by omega⟩ ⟨by omega, by omega⟩ (fun zq59 => ?_) (fun zq59 => ?_)
          · refine bi_const (n := 0) zx zb dX5_joins_77 ?_
            refine lv_istore (lv' := [(7, .int (iI 0)), (6, .int (iI 1)), (5, .int (iI (10 * f + i))), (0, .ref (g.1 4)), (1, .int (iI f)), (2, .int (iI a)), (3, .int (iI b)), (4, .int (iI i))]) zx zb dX5_joins_78 hl (by decide) rfl (fun ls hl => ?_)
            refine lv_iload zx zb dX5_joins_80 (lv_at hl 1 rfl) ?_
            refine bz_ne (tgt := 90) zx zb dX5_joins_82 (by decide) ⟨by omega, by omega⟩ (fun zq82 => ?_) (fun zq82 => ?_)
            · refine bi_const (n := 1) zx zb dX5_joins_90 ?_
              exact retZ C0 hret hlk hH (by first | exact absurd rfl zq82 | exact absurd rfl zq85 | (rw [hR, exF_f zq11 (by simp_all [jnQ])]; rfl)) (by omega) (rfl) dX5_joins_91
            · exact absurd zq82 (by decide)
          · refine lv_aload_n zx zb dX5_joins_62 rfl (lv_at hl 2 rfl) ?_
            refine gf_X5_18 C0 hH dX5_joins_63 ?_
            refine lv_iload zx zb dX5_joins_66 (lv_at hl 1 rfl) ?_
            refine al_7 C0 hH (by omega) (by omega) dX5_joins_68 ?_
            refine lv_iload_n zx zb dX5_joins_69 rfl (lv_at hl 4 rfl) ?_
            refine bq_ne (tgt := 77) zx zb dX5_joins_70 (by decide) ⟨by omega, by omega⟩ ⟨by omega, by omega⟩ (fun zq70 => ?_) (fun zq70 => ?_)
            · refine bi_const (n := 0) zx zb dX5_joins_77 ?_
              refine lv_istore (lv' := [(7, .int (iI 0)), (6, .int (iI 1)), (5, .int (iI (10 * f + i))), (0, .ref (g.1 4)), (1, .int (iI f)), (2, .int (iI a)), (3, .int (iI b)), (4, .int (iI i))]) zx zb dX5_joins_78 hl (by decide) rfl (fun ls hl => ?_)
              refine lv_iload zx zb dX5_joins_80 (lv_at hl 1 rfl) ?_
              refine bz_ne (tgt := 90) zx zb dX5_joins_82 (by decide) ⟨by omega, by omega⟩ (fun zq82 => ?_) (fun zq82 => ?_)
              · refine bi_const (n := 1) zx zb dX5_joins_90 ?_
                exact retZ C0 hret hlk hH (by first | exact absurd rfl zq82 | exact absurd rfl zq85 | (rw [hR, exF_f zq11 (by simp_all [jnQ])]; rfl)) (by omega) (rfl) dX5_joins_91
              · exact absurd zq82 (by decide)
            · refine bi_const (n := 1) zx zb dX5_joins_73 ?_
              refine lv_goto (tgt := 78) zx zb dX5_joins_74 (by decide) ?_
              refine lv_istore (lv' := [(7, .int (iI 1)), (6, .int (iI 1)), (5, .int (iI (10 * f + i))), (0, .ref (g.1 4)), (1, .int (iI f)), (2, .int (iI a)), (3, .int (iI b)), (4, .int (iI i))]) zx zb dX5_joins_78 hl (by decide) rfl (fun ls hl => ?_)
              refine lv_iload zx zb dX5_joins_80 (lv_at hl 1 rfl) ?_
              refine bz_ne (tgt := 90) zx zb dX5_joins_82 (by decide) ⟨by omega, by omega⟩ (fun zq82 => ?_) (fun zq82 => ?_)
              · refine bi_const (n := 1) zx zb dX5_joins_90 ?_
                exact retZ C0 hret hlk hH (by first | exact absurd rfl zq82 | exact absurd rfl zq85 | (rw [hR, exF_f zq11 (by simp_all [jnQ])]; rfl)) (by omega) (rfl) dX5_joins_91
              · exact absurd zq82 (by decide)
  obtain ⟨H, hHe⟩ : ∃ H : Heap, H = s.heap := ⟨_, rfl⟩
  rw [show (Hp g S s s.heap []) = Hp g S s H [] by rw [hHe]] at hH
  rw [← hHe]
  have hn := hN f hf.1 hf.2
  refine bi_const (n := 0) zx zb dX5_joins_0 ?_
  refine lv_istore (lv' := [(4, .int (iI 0)), (0, .ref (g.1 4)), (1, .int (iI f)), (2, .int (iI a)), (3, .int (iI b))]) zx zb dX5_joins_1 hl (by decide) rfl (fun ls hl => ?_)
  exact L3 _ 0 rfl (by omega) (by unfold jnB; rw [Int.sub_zero, Int.add_zero]) _ _ hH ls (lv_sub hl [1, 2, 3, 4, 0] rfl)
set_option maxRecDepth 100000 in
set_option maxHeartbeats 4000000 in
theorem c_X5_ownerOf (l : Launch) (g : gT) (S : gSt) (z : Int) (hz : 0 ≤ z ∧ z < 24) (hnf : 0 ≤ S 4 0 ∧ S 4 0 ≤ 8) (hN : okN (S 5)) (hE : okE (S 5) (S 6)) (hO : okE (S 5) (S 7)) : MetG l g yX5_ownerOf cX5_ownerOf 3 (some .int) 2 45 [.ref (g.1 4), .int (iI z)] S (some (.int (iI (owI (S 4 0) (S 5) (S 6) (S 7) z)))) S := by
  refine bodyG (by decide +kernel) (Nat.le_of_ble_eq_true rfl) ?_
  intro p e s m args below meth c ls C0 hret hlk hl hH
  have zx := C0.1
  have zb := C0.2.1
  have hl : lv_has ls 3 [(0, .ref (g.1 4)), (1, .int (iI z))] := hl
  have L2 : ∀ (μ : Nat) (i : Int), (S 4 0 - i).toNat = μ → (0 ≤ i ∧ i ≤ S 4 0) → (owI (S 4 0) (S 5) (S 6) (S 7) z = fdF (fun f => hsB (S 5) (S 6) (S 7) f z) (S 4 0 - i).toNat i) → ∀ (H : Heap) (locs : List Loc), Hp g S s H locs → ∀ ls : Array Slot, lv_has ls 3 [(0, .ref (g.1 4)), (1, .int (iI z)), (2, .int (iI i))] → W p l e { frames := 2, cells := 0, slots := 0, locals := 45 } s m args below meth c H locs 0 0 (MQ below (RetG g (some (.int (iI (owI (S 4 0) (S 5) (S 6) (S 7) z)))) S) args s 0 0 (oA g)) (F0 m 2 ls []) := by
    refine lpN (fun μ2 ih2 => ?_)
    intro i hμ2 hi hR H locs hH ls hl
    refine lv_iload_n zx zb dX5_ownerOf_2 rfl (lv_at hl 2 rfl) ?_
    refine lv_aload_n zx zb dX5_ownerOf_3 rfl (lv_at hl 0 rfl) ?_
    refine gf_X5_21 C0 hH dX5_ownerOf_4 ?_
    refine bq_ge (tgt := 27) zx zb dX5_ownerOf_7 (by decide) ⟨by omega, by omega⟩ ⟨by omega, by omega⟩ (fun zq7 => ?_) (fun zq7 => ?_)
    · refine bi_const (n := (-1)) zx zb dX5_ownerOf_27 ?_
      exact retI C0 hret hlk hH (by rw [hR, fdF_e (by omega)]) (rfl) dX5_ownerOf_28
    · refine lv_aload_n zx zb dX5_ownerOf_10 rfl (lv_at hl 0 rfl) ?_
      refine lv_iload_n zx zb dX5_ownerOf_11 rfl (lv_at hl 2 rfl) ?_
      refine lv_iload_n zx zb dX5_ownerOf_12 rfl (lv_at hl 1 rfl) ?_
      refine cvI (rest := []) (As := [.int (iI i), .int (iI z)]) (b := g.1 4) C0 hH (c_X5_hasStar l g S i z (by omega) (by omega) (hN) (hE) (hO)) kw_X5_29 ky_X5_hasStar ⟨Nat.le_of_ble_eq_true rfl, Nat.le_of_ble_eq_true rfl⟩ ⟨Nat.zero_le _, Nat.zero_le _⟩ 4 rfl rfl rfl hl.1 rfl (Nat.le_of_ble_eq_true rfl) dX5_ownerOf_13 (fun H locs hH => ?_)
      have hb16 := brg (hsB (S 5) (S 6) (S 7) i z)
      refine bz_eq (tgt := 21) zx zb dX5_ownerOf_16 (by decide) ⟨by omega, by omega⟩ (fun zq16 => ?_) (fun zq16 => ?_)
      · refine bi_inc (k0 := 2) (n := 1) (lv' := [(2, .int (iI (i + 1))), (0, .ref (g.1 4)), (1, .int (iI z))]) zx zb dX5_ownerOf_21 hl rfl (by decide) rfl (fun ls hl => ?_)
        refine lv_goto (tgt := 2) zx zb dX5_ownerOf_24 (by decide) ?_
        exact ih2 ((S 4 0 - (i + 1)).toNat) (by omega) (i + 1) rfl (by omega) (by rw [hR, fdF_t zq7 (b0 zq16)]) _ _ hH ls (lv_sub hl [1, 2, 0] rfl)
      · refine lv_iload_n zx zb dX5_ownerOf_19 rfl (lv_at hl 2 rfl) ?_
        exact retI C0 hret hlk hH (by rw [hR, fdF_f zq7 (b1 zq16)]) (rfl) dX5_ownerOf_20
  obtain ⟨H, hHe⟩ : ∃ H : Heap, H = s.heap := ⟨_, rfl⟩
  rw [show (Hp g S s s.heap []) = Hp g S s H [] by rw [hHe]] at hH
  rw [← hHe]
  refine bi_const (n := 0) zx zb dX5_ownerOf_0 ?_
  refine lv_istore_n (lv' := [(2, .int (iI 0)), (0, .ref (g.1 4)), (1, .int (iI z))]) zx zb dX5_ownerOf_1 rfl hl (by decide) rfl (fun ls hl => ?_)
  exact L2 _ 0 rfl (by omega) (by unfold owI; rw [Int.sub_zero]) _ _ hH ls (lv_sub hl [1, 2, 0] rfl)
set_option maxRecDepth 100000 in
set_option maxHeartbeats 4000000 in
theorem c_X5_isOfAnother (l : Launch) (g : gT) (S : gSt) (f z : Int) (hf : 0 ≤ f ∧ f < 8) (hz : 0 ≤ z ∧ z < 24) (hnf : 0 ≤ S 4 0 ∧ S 4 0 ≤ 8) (hN : okN (S 5)) (hE : okE (S 5) (S 6)) (hO : okE (S 5) (S 7)) : MetG l g yX5_isOfAnother cX5_isOfAnother 4 (some .boolean) 3 67 [.ref (g.1 4), .int (iI f), .int (iI z)] S (some (.int (iI (if owI (S 4 0) (S 5) (S 6) (S 7) z ≠ -1 ∧ owI (S 4 0) (S 5) (S 6) (S 7) z ≠ f then 1 else 0)))) S := by
  refine bodyG (by decide +kernel) (Nat.le_of_ble_eq_true rfl) ?_
  intro p e s m args below meth c ls C0 hret hlk hl hH
  have zx := C0.1
  have zb := C0.2.1
  have hl : lv_has ls 4 [(0, .ref (g.1 4)), (1, .int (iI f)), (2, .int (iI z))] := hl
  obtain ⟨H, hHe⟩ : ∃ H : Heap, H = s.heap := ⟨_, rfl⟩
  rw [show (Hp g S s s.heap []) = Hp g S s H [] by rw [hHe]] at hH
  rw [← hHe]
  have hob := owI_b (nf := S 4 0) (n := S 5) (e := S 6) (o := S 7) (z := z) hnf.1
  refine lv_aload_n zx zb dX5_isOfAnother_0 rfl (lv_at hl 0 rfl) ?_
  refine lv_iload_n zx zb dX5_isOfAnother_1 rfl (lv_at hl 2 rfl) ?_
  refine cvI (rest := []) (As := [.int (iI z)]) (b := g.1 4) C0 hH (c_X5_ownerOf l g S z (by omega) (by omega) (hN) (hE) (hO)) kw_X5_33 ky_X5_ownerOf ⟨Nat.le_of_ble_eq_true rfl, Nat.le_of_ble_eq_true rfl⟩ ⟨Nat.zero_le _, Nat.zero_le _⟩ 4 rfl rfl rfl hl.1 rfl (Nat.le_of_ble_eq_true rfl) dX5_isOfAnother_2 (fun H locs hH => ?_)
  refine lv_istore_n (lv' := [(3, .int (iI (owI (S 4 0) (S 5) (S 6) (S 7) z))), (0, .ref (g.1 4)), (1, .int (iI f)), (2, .int (iI z))]) zx zb dX5_isOfAnother_5 rfl hl (by decide) rfl (fun ls hl => ?_)
  refine lv_iload_n zx zb dX5_isOfAnother_6 rfl (lv_at hl 0 rfl) ?_
  refine bi_const (n := (-1)) zx zb dX5_isOfAnother_7 ?_
  refine bq_eq (tgt := 20) zx zb dX5_isOfAnother_8 (by decide) ⟨by omega, by omega⟩ ⟨by omega, by omega⟩ (fun zq8 => ?_) (fun zq8 => ?_)
  · refine bi_const (n := 0) zx zb dX5_isOfAnother_20 ?_
    exact retZ C0 hret hlk hH (by first | (rw [if_pos ⟨zq8, zq13⟩]; done) | (rw [if_neg (fun h => h.1 zq8)]; done) | (rw [if_neg (fun h => h.2 zq13)]; done)) (by omega) (rfl) dX5_isOfAnother_21
  · refine lv_iload_n zx zb dX5_isOfAnother_11 rfl (lv_at hl 0 rfl) ?_
    refine lv_iload_n zx zb dX5_isOfAnother_12 rfl (lv_at hl 2 rfl) ?_
    refine bq_eq (tgt := 20) zx zb dX5_isOfAnother_13 (by decide) ⟨by omega, by omega⟩ ⟨by omega, by omega⟩ (fun zq13 => ?_) (fun zq13 => ?_)
    · refine bi_const (n := 0) zx zb dX5_isOfAnother_20 ?_
      exact retZ C0 hret hlk hH (by first | (rw [if_pos ⟨zq8, zq13⟩]; done) | (rw [if_neg (fun h => h.1 zq8)]; done) | (rw [if_neg (fun h => h.2 zq13)]; done)) (by omega) (rfl) dX5_isOfAnother_21
    · refine bi_const (n := 1) zx zb dX5_isOfAnother_16 ?_
      refine lv_goto (tgt := 21) zx zb dX5_isOfAnother_17 (by decide) ?_
      exact retZ C0 hret hlk hH (by first | (rw [if_pos ⟨zq8, zq13⟩]; done) | (rw [if_neg (fun h => h.1 zq8)]; done) | (rw [if_neg (fun h => h.2 zq13)]; done)) (by omega) (rfl) dX5_isOfAnother_21
set_option maxRecDepth 100000 in
set_option maxHeartbeats 4000000 in
theorem c_X5_insert (l : Launch) (g : gT) (S : gSt) (f k a b : Int) (hf : 0 ≤ f ∧ f < 8) (hk : 0 ≤ k ∧ k ≤ S 5 f) (hc : S 5 f < 10) : MetG l g yX5_insert cX5_insert 7 none 1 21 [.ref (g.1 4), .int (iI f), .int (iI k), .int (iI a), .int (iI b)] S none (lnIn S 5 6 7 f k a b) := by
  refine bodyG (by decide +kernel) (Nat.le_of_ble_eq_true rfl) ?_
  intro p e s m args below meth c ls C0 hret hlk hl hH
  have zx := C0.1
  have zb := C0.2.1
  have hl : lv_has ls 7 [(0, .ref (g.1 4)), (1, .int (iI f)), (2, .int (iI k)), (3, .int (iI a)), (4, .int (iI b))] := hl
  have L34 : ∀ (μ : Nat) (j : Int), (j - (10 * f + k)).toNat = μ → (10 * f + k ≤ j ∧ j ≤ 10 * f + S 5 f) → ∀ (H : Heap) (locs : List Loc), Hp g (s2 S 6 7 (shA (S 6) j (10 * f + S 5 f)) (shA (S 7) j (10 * f + S 5 f))) s H locs → ∀ ls : Array Slot, lv_has ls 7 [(0, .ref (g.1 4)), (1, .int (iI f)), (2, .int (iI k)), (3, .int (iI a)), (4, .int (iI b)), (5, .int (iI (S 5 f))), (6, .int (iI j))] → W p l e { frames := 1, cells := 0, slots := 0, locals := 21 } s m args below meth c H locs 0 0 (MQ below (RetG g none (lnIn S 5 6 7 f k a b)) args s 0 0 (oA g)) (F0 m 34 ls []) := by
    refine lpN (fun μ34 ih34 => ?_)
    intro j hμ34 hj H locs hH ls hl
    refine lv_iload zx zb dX5_insert_34 (lv_at hl 6 rfl) ?_
    refine lv_iload_n zx zb dX5_insert_36 rfl (lv_at hl 1 rfl) ?_
    refine lv_iload_n zx zb dX5_insert_37 rfl (lv_at hl 2 rfl) ?_
    refine csI (rest := [.int (iI j)]) (As := [.int (iI f), .int (iI k)]) C0 hH (c_X5_place l g (s2 S 6 7 (shA (S 6) j (10 * f + S 5 f)) (shA (S 7) j (10 * f + S 5 f))) f k) kw_X5_25 ky_X5_place ⟨Nat.le_of_ble_eq_true rfl, Nat.le_of_ble_eq_true rfl⟩ ⟨Nat.zero_le _, Nat.zero_le _⟩ rfl hl.1 rfl (Nat.le_of_ble_eq_true rfl) dX5_insert_38 (fun H locs hH => ?_)
    refine bq_le (tgt := 82) zx zb dX5_insert_41 (by decide) ⟨by omega, by omega⟩ ⟨by omega, by omega⟩ (fun zq41 => ?_) (fun zq41 => ?_)
    · refine lv_aload_n zx zb dX5_insert_82 rfl (lv_at hl 0 rfl) ?_
      refine gf_X5_15 C0 hH dX5_insert_83 ?_
      refine lv_iload_n zx zb dX5_insert_86 rfl (lv_at hl 1 rfl) ?_
      refine lv_iload_n zx zb dX5_insert_87 rfl (lv_at hl 2 rfl) ?_
      refine csI (rest := [.ref (g.1 6)]) (As := [.int (iI f), .int (iI k)]) C0 hH (c_X5_place l g (s2 S 6 7 (shA (S 6) j (10 * f + S 5 f)) (shA (S 7) j (10 * f + S 5 f))) f k) kw_X5_25 ky_X5_place ⟨Nat.le_of_ble_eq_true rfl, Nat.le_of_ble_eq_true rfl⟩ ⟨Nat.zero_le _, Nat.zero_le _⟩ rfl hl.1 rfl (Nat.le_of_ble_eq_true rfl) dX5_insert_88 (fun H locs hH => ?_)
      refine lv_iload_n zx zb dX5_insert_91 rfl (lv_at hl 3 rfl) ?_
      refine as_6 C0 hH (by omega) (by omega) dX5_insert_92 (fun H locs hH => ?_)
      refine lv_aload_n zx zb dX5_insert_93 rfl (lv_at hl 0 rfl) ?_
      refine gf_X5_18 C0 hH dX5_insert_94 ?_
      refine lv_iload_n zx zb dX5_insert_97 rfl (lv_at hl 1 rfl) ?_
      refine lv_iload_n zx zb dX5_insert_98 rfl (lv_at hl 2 rfl) ?_
      refine csI (rest := [.ref (g.1 7)]) (As := [.int (iI f), .int (iI k)]) C0 hH (c_X5_place l g (st (s2 S 6 7 (shA (S 6) j (10 * f + S 5 f)) (shA (S 7) j (10 * f + S 5 f))) 6 (10 * f + k) a) f k) kw_X5_25 ky_X5_place ⟨Nat.le_of_ble_eq_true rfl, Nat.le_of_ble_eq_true rfl⟩ ⟨Nat.zero_le _, Nat.zero_le _⟩ rfl hl.1 rfl (Nat.le_of_ble_eq_true rfl) dX5_insert_99 (fun H locs hH => ?_)
      refine lv_iload zx zb dX5_insert_102 (lv_at hl 4 rfl) ?_
      refine as_7 C0 hH (by omega) (by omega) dX5_insert_104 (fun H locs hH => ?_)
      refine lv_aload_n zx zb dX5_insert_105 rfl (lv_at hl 0 rfl) ?_
      refine gf_X5_9 C0 hH dX5_insert_106 ?_
      refine lv_iload_n zx zb dX5_insert_109 rfl (lv_at hl 1 rfl) ?_
      refine lv_iload zx zb dX5_insert_110 (lv_at hl 5 rfl) ?_
      refine bi_const (n := 1) zx zb dX5_insert_112 ?_
      refine bi_add zx zb dX5_insert_113 ?_
      refine as_5 C0 hH (by omega) (by omega) dX5_insert_114 (fun H locs hH => ?_)
      exact retV C0 hret hlk hH (by rw [show j = 10 * f + k by omega]; unfold lnIn; rw [s2_st1 (by decide), s2_st2]; rfl) dX5_insert_115
    · refine lv_aload_n zx zb dX5_insert_44 rfl (lv_at hl 0 rfl) ?_
      refine gf_X5_15 C0 hH dX5_insert_45 ?_
      refine lv_iload zx zb dX5_insert_48 (lv_at hl 6 rfl) ?_
      refine lv_aload_n zx zb dX5_insert_50 rfl (lv_at hl 0 rfl) ?_
      refine gf_X5_15 C0 hH dX5_insert_51 ?_
      refine lv_iload zx zb dX5_insert_54 (lv_at hl 6 rfl) ?_
      refine bi_const (n := 1) zx zb dX5_insert_56 ?_
      refine bi_sub zx zb dX5_insert_57 ?_
      refine al_6 C0 hH (by omega) (by omega) dX5_insert_58 ?_
      show W p l e _ s m args below meth c H _ _ _ _ (F0 m 59 ls [.int (iI ((s2 S 6 7 (shA (S 6) j (10 * f + S 5 f)) (shA (S 7) j (10 * f + S 5 f))) 6 (j - 1))), .int (iI j), .ref (g.1 6)])
      refine as_6 C0 hH (by omega) (by omega) dX5_insert_59 (fun H locs hH => ?_)
      refine lv_aload_n zx zb dX5_insert_60 rfl (lv_at hl 0 rfl) ?_
      refine gf_X5_18 C0 hH dX5_insert_61 ?_
      refine lv_iload zx zb dX5_insert_64 (lv_at hl 6 rfl) ?_
      refine lv_aload_n zx zb dX5_insert_66 rfl (lv_at hl 0 rfl) ?_
      refine gf_X5_18 C0 hH dX5_insert_67 ?_
      refine lv_iload zx zb dX5_insert_70 (lv_at hl 6 rfl) ?_
      refine bi_const (n := 1) zx zb dX5_insert_72 ?_
      refine bi_sub zx zb dX5_insert_73 ?_
      refine al_7 C0 hH (by omega) (by omega) dX5_insert_74 ?_
      show W p l e _ s m args below meth c H _ _ _ _ (F0 m 75 ls [.int (iI ((s2 S 6 7 (shA (S 6) j (10 * f + S 5 f)) (shA (S 7) j (10 * f + S 5 f))) 7 (j - 1))), .int (iI j), .ref (g.1 7)])
      refine as_7 C0 hH (by omega) (by omega) dX5_insert_75 (fun H locs hH => ?_)
      refine bi_inc (k0 := 6) (n := (-1)) (lv' := [(6, .int (iI (j + (-1)))), (0, .ref (g.1 4)), (1, .int (iI f)), (2, .int (iI k)), (3, .int (iI a)), (4, .int (iI b)), (5, .int (iI (S 5 f)))]) zx zb dX5_insert_76 hl rfl (by decide) rfl (fun ls hl => ?_)
      refine lv_goto (tgt := 34) zx zb dX5_insert_79 (by decide) ?_
      exact ih34 (((j + (-1)) - (10 * f + k)).toNat) (by omega) (j + (-1)) rfl (by omega) _ _ (hp_eq (by exact (sh_step (by decide) (S 6) (S 7) hj.2)) hH) ls (lv_sub hl [1, 2, 3, 4, 5, 6, 0] rfl)
  obtain ⟨H, hHe⟩ : ∃ H : Heap, H = s.heap := ⟨_, rfl⟩
  rw [show (Hp g S s s.heap []) = Hp g S s H [] by rw [hHe]] at hH
  rw [← hHe]
  refine lv_aload_n zx zb dX5_insert_0 rfl (lv_at hl 0 rfl) ?_
  refine gf_X5_9 C0 hH dX5_insert_1 ?_
  refine lv_iload_n zx zb dX5_insert_4 rfl (lv_at hl 1 rfl) ?_
  refine al_5 C0 hH (by omega) (by omega) dX5_insert_5 ?_
  refine lv_istore (lv' := [(5, .int (iI (S 5 f))), (0, .ref (g.1 4)), (1, .int (iI f)), (2, .int (iI k)), (3, .int (iI a)), (4, .int (iI b))]) zx zb dX5_insert_6 hl (by decide) rfl (fun ls hl => ?_)
  refine lv_iload_n zx zb dX5_insert_8 rfl (lv_at hl 3 rfl) ?_
  refine bz_lt (tgt := 25) zx zb dX5_insert_9 (by decide) ⟨by omega, by omega⟩ (fun zq9 => ?_) (fun zq9 => ?_)
  · exact absurd zq9 (by omega)
  · refine lv_iload_n zx zb dX5_insert_12 rfl (lv_at hl 3 rfl) ?_
    refine lv_iload zx zb dX5_insert_13 (lv_at hl 0 rfl) ?_
    refine bq_gt (tgt := 25) zx zb dX5_insert_15 (by decide) ⟨by omega, by omega⟩ ⟨by omega, by omega⟩ (fun zq15 => ?_) (fun zq15 => ?_)
    · exact absurd zq15 (by omega)
    · refine lv_iload zx zb dX5_insert_18 (lv_at hl 0 rfl) ?_
      refine bi_bip (n := 10) zx zb dX5_insert_20 (by decide) ?_
      refine bq_lt (tgt := 26) zx zb dX5_insert_22 (by decide) ⟨by omega, by omega⟩ ⟨by omega, by omega⟩ (fun zq22 => ?_) (fun zq22 => ?_)
      · refine lv_iload_n zx zb dX5_insert_26 rfl (lv_at hl 2 rfl) ?_
        refine lv_iload zx zb dX5_insert_27 (lv_at hl 0 rfl) ?_
        refine csI (rest := []) (As := [.int (iI f), .int (iI (S 5 f))]) C0 hH (c_X5_place l g S f (S 5 f)) kw_X5_25 ky_X5_place ⟨Nat.le_of_ble_eq_true rfl, Nat.le_of_ble_eq_true rfl⟩ ⟨Nat.zero_le _, Nat.zero_le _⟩ rfl hl.1 rfl (Nat.le_of_ble_eq_true rfl) dX5_insert_29 (fun H locs hH => ?_)
        refine lv_istore (lv' := [(6, .int (iI (10 * f + (S 5 f)))), (5, .int (iI (S 5 f))), (0, .ref (g.1 4)), (1, .int (iI f)), (2, .int (iI k)), (3, .int (iI a)), (4, .int (iI b))]) zx zb dX5_insert_32 hl (by decide) rfl (fun ls hl => ?_)
        exact L34 _ (10 * f + (S 5 f)) rfl (by omega) _ _ (hp_eq (by rw [shA_0, shA_0, s2_id _ _ _ (by decide)]) hH) ls (lv_sub hl [2, 3, 4, 5, 6, 1, 0] rfl)
      · exact absurd zq22 (by omega)
set_option maxRecDepth 100000 in
set_option maxHeartbeats 4000000 in
theorem c_X5_remove (l : Launch) (g : gT) (S : gSt) (f k : Int) (hf : 0 ≤ f ∧ f < 8) (hk : 0 ≤ k ∧ k < S 5 f) (hc : S 5 f ≤ 10) : MetG l g yX5_remove cX5_remove 5 none 1 21 [.ref (g.1 4), .int (iI f), .int (iI k)] S none (lnOut S 5 6 7 f k) := by
  refine bodyG (by decide +kernel) (Nat.le_of_ble_eq_true rfl) ?_
  intro p e s m args below meth c ls C0 hret hlk hl hH
  have zx := C0.1
  have zb := C0.2.1
  have hl : lv_has ls 5 [(0, .ref (g.1 4)), (1, .int (iI f)), (2, .int (iI k))] := hl
  have L24 : ∀ (μ : Nat) (j : Int), (10 * f + S 5 f - j).toNat = μ → (10 * f + k ≤ j ∧ j ≤ 10 * f + S 5 f - 1) → ∀ (H : Heap) (locs : List Loc), Hp g (s2 S 6 7 (delA (S 6) (10 * f + k) j) (delA (S 7) (10 * f + k) j)) s H locs → ∀ ls : Array Slot, lv_has ls 5 [(0, .ref (g.1 4)), (1, .int (iI f)), (2, .int (iI k)), (3, .int (iI (S 5 f))), (4, .int (iI j))] → W p l e { frames := 1, cells := 0, slots := 0, locals := 21 } s m args below meth c H locs 0 0 (MQ below (RetG g none (lnOut S 5 6 7 f k)) args s 0 0 (oA g)) (F0 m 24 ls []) := by
    refine lpN (fun μ24 ih24 => ?_)
    intro j hμ24 hj H locs hH ls hl
    refine lv_iload zx zb dX5_remove_24 (lv_at hl 4 rfl) ?_
    refine lv_iload_n zx zb dX5_remove_26 rfl (lv_at hl 1 rfl) ?_
    refine lv_iload_n zx zb dX5_remove_27 rfl (lv_at hl 3 rfl) ?_
    refine bi_const (n := 1) zx zb dX5_remove_28 ?_
    refine bi_sub zx zb dX5_remove_29 ?_
    refine csI (rest := [.int (iI j)]) (As := [.int (iI f), .int (iI ((S 5 f) - 1))]) C0 hH (c_X5_place l g (s2 S 6 7 (delA (S 6) (10 * f + k) j) (delA (S 7) (10 * f + k) j)) f ((S 5 f) - 1)) kw_X5_25 ky_X5_place ⟨Nat.le_of_ble_eq_true rfl, Nat.le_of_ble_eq_true rfl⟩ ⟨Nat.zero_le _, Nat.zero_le _⟩ rfl hl.1 rfl (Nat.le_of_ble_eq_true rfl) dX5_remove_30 (fun H locs hH => ?_)
    refine bq_ge (tgt := 74) zx zb dX5_remove_33 (by decide) ⟨by omega, by omega⟩ ⟨by omega, by omega⟩ (fun zq33 => ?_) (fun zq33 => ?_)
    · refine lv_aload_n zx zb dX5_remove_74 rfl (lv_at hl 0 rfl) ?_
      refine gf_X5_9 C0 hH dX5_remove_75 ?_
      refine lv_iload_n zx zb dX5_remove_78 rfl (lv_at hl 1 rfl) ?_
      refine lv_iload_n zx zb dX5_remove_79 rfl (lv_at hl 3 rfl) ?_
      refine bi_const (n := 1) zx zb dX5_remove_80 ?_
      refine bi_sub zx zb dX5_remove_81 ?_
      refine as_5 C0 hH (by omega) (by omega) dX5_remove_82 (fun H locs hH => ?_)
      exact retV C0 hret hlk hH (by rw [show j = 10 * f + S 5 f - 1 by omega]; rfl) dX5_remove_83
    · refine lv_aload_n zx zb dX5_remove_36 rfl (lv_at hl 0 rfl) ?_
      refine gf_X5_15 C0 hH dX5_remove_37 ?_
      refine lv_iload zx zb dX5_remove_40 (lv_at hl 4 rfl) ?_
      refine lv_aload_n zx zb dX5_remove_42 rfl (lv_at hl 0 rfl) ?_
      refine gf_X5_15 C0 hH dX5_remove_43 ?_
      refine lv_iload zx zb dX5_remove_46 (lv_at hl 4 rfl) ?_
      refine bi_const (n := 1) zx zb dX5_remove_48 ?_
      refine bi_add zx zb dX5_remove_49 ?_
      refine al_6 C0 hH (by omega) (by omega) dX5_remove_50 ?_
      show W p l e _ s m args below meth c H _ _ _ _ (F0 m 51 ls [.int (iI ((s2 S 6 7 (delA (S 6) (10 * f + k) j) (delA (S 7) (10 * f + k) j)) 6 (j + 1))), .int (iI j), .ref (g.1 6)])
      refine as_6 C0 hH (by omega) (by omega) dX5_remove_51 (fun H locs hH => ?_)
      refine lv_aload_n zx zb dX5_remove_52 rfl (lv_at hl 0 rfl) ?_
      refine gf_X5_18 C0 hH dX5_remove_53 ?_
      refine lv_iload zx zb dX5_remove_56 (lv_at hl 4 rfl) ?_
      refine lv_aload_n zx zb dX5_remove_58 rfl (lv_at hl 0 rfl) ?_
      refine gf_X5_18 C0 hH dX5_remove_59 ?_
      refine lv_iload zx zb dX5_remove_62 (lv_at hl 4 rfl) ?_
      refine bi_const (n := 1) zx zb dX5_remove_64 ?_
      refine bi_add zx zb dX5_remove_65 ?_
      refine al_7 C0 hH (by omega) (by omega) dX5_remove_66 ?_
      show W p l e _ s m args below meth c H _ _ _ _ (F0 m 67 ls [.int (iI ((s2 S 6 7 (delA (S 6) (10 * f + k) j) (delA (S 7) (10 * f + k) j)) 7 (j + 1))), .int (iI j), .ref (g.1 7)])
      refine as_7 C0 hH (by omega) (by omega) dX5_remove_67 (fun H locs hH => ?_)
      refine bi_inc (k0 := 4) (n := 1) (lv' := [(4, .int (iI (j + 1))), (0, .ref (g.1 4)), (1, .int (iI f)), (2, .int (iI k)), (3, .int (iI (S 5 f)))]) zx zb dX5_remove_68 hl rfl (by decide) rfl (fun ls hl => ?_)
      refine lv_goto (tgt := 24) zx zb dX5_remove_71 (by decide) ?_
      exact ih24 ((10 * f + S 5 f - (j + 1)).toNat) (by omega) (j + 1) rfl (by omega) _ _ (hp_eq (by exact (del_step (by decide) (S 6) (S 7) hj.1)) hH) ls (lv_sub hl [1, 2, 3, 4, 0] rfl)
  obtain ⟨H, hHe⟩ : ∃ H : Heap, H = s.heap := ⟨_, rfl⟩
  rw [show (Hp g S s s.heap []) = Hp g S s H [] by rw [hHe]] at hH
  rw [← hHe]
  refine lv_aload_n zx zb dX5_remove_0 rfl (lv_at hl 0 rfl) ?_
  refine gf_X5_9 C0 hH dX5_remove_1 ?_
  refine lv_iload_n zx zb dX5_remove_4 rfl (lv_at hl 1 rfl) ?_
  refine al_5 C0 hH (by omega) (by omega) dX5_remove_5 ?_
  refine lv_istore_n (lv' := [(3, .int (iI (S 5 f))), (0, .ref (g.1 4)), (1, .int (iI f)), (2, .int (iI k))]) zx zb dX5_remove_6 rfl hl (by decide) rfl (fun ls hl => ?_)
  refine lv_iload_n zx zb dX5_remove_7 rfl (lv_at hl 3 rfl) ?_
  refine bz_lt (tgt := 16) zx zb dX5_remove_8 (by decide) ⟨by omega, by omega⟩ (fun zq8 => ?_) (fun zq8 => ?_)
  · exact absurd zq8 (by omega)
  · refine lv_iload_n zx zb dX5_remove_11 rfl (lv_at hl 3 rfl) ?_
    refine lv_iload_n zx zb dX5_remove_12 rfl (lv_at hl 0 rfl) ?_
    refine bq_lt (tgt := 17) zx zb dX5_remove_13 (by decide) ⟨by omega, by omega⟩ ⟨by omega, by omega⟩ (fun zq13 => ?_) (fun zq13 => ?_)
    · refine lv_iload_n zx zb dX5_remove_17 rfl (lv_at hl 2 rfl) ?_
      refine lv_iload_n zx zb dX5_remove_18 rfl (lv_at hl 3 rfl) ?_
      refine csI (rest := []) (As := [.int (iI f), .int (iI k)]) C0 hH (c_X5_place l g S f k) kw_X5_25 ky_X5_place ⟨Nat.le_of_ble_eq_true rfl, Nat.le_of_ble_eq_true rfl⟩ ⟨Nat.zero_le _, Nat.zero_le _⟩ rfl hl.1 rfl (Nat.le_of_ble_eq_true rfl) dX5_remove_19 (fun H locs hH => ?_)
      refine lv_istore (lv' := [(4, .int (iI (10 * f + k))), (3, .int (iI (S 5 f))), (0, .ref (g.1 4)), (1, .int (iI f)), (2, .int (iI k))]) zx zb dX5_remove_22 hl (by decide) rfl (fun ls hl => ?_)
      exact L24 _ (10 * f + k) rfl (by omega) _ _ (hp_eq (by rw [delA_0, delA_0, s2_id _ _ _ (by decide)]) hH) ls (lv_sub hl [2, 3, 4, 1, 0] rfl)
    · exact absurd zq13 (by omega)
end
section
/-! ===== bits: sets of small numbers as naturals ===== -/
theorem iN (n : Nat) : iI (n : Int) = nI n := (iI_nat n).symm
theorem bt_and (a b : Nat) : iI (a : Int) &&& iI (b : Int) = iI ((a &&& b : Nat) : Int) := by
  rw [iN, iN, iN]
  apply Int32.toBitVec_inj.1
  show BitVec.ofNat 32 a &&& BitVec.ofNat 32 b = BitVec.ofNat 32 (a &&& b)
  apply BitVec.eq_of_getLsbD_eq
  intro i hi
  simp [hi]
theorem bt_or (a b : Nat) : iI (a : Int) ||| iI (b : Int) = iI ((a ||| b : Nat) : Int) := by
  rw [iN, iN, iN]
  apply Int32.toBitVec_inj.1
  show BitVec.ofNat 32 a ||| BitVec.ofNat 32 b = BitVec.ofNat 32 (a ||| b)
  apply BitVec.eq_of_getLsbD_eq
  intro i hi
  simp [hi]
theorem bt_amt : ∀ n : Nat, n < 31 → ((nI n &&& 31).toBitVec.smod 32).toNat = n := by decide +kernel
theorem bt_shl {b : Int} (h0 : 0 ≤ b) (h1 : b < 31) : iI 1 <<< (iI b &&& 31) = iI ((2 ^ b.toNat : Nat) : Int) := by
  obtain ⟨n, rfl⟩ : ∃ n : Nat, b = (n : Int) := ⟨b.toNat, (Int.toNat_of_nonneg h0).symm⟩
  have hn : n < 31 := by omega
  rw [iN, iN, Int.toNat_natCast]
  have h2 : (1 : Nat) * 2 ^ n < 2 ^ 32 := by
    rw [Nat.one_mul]
    exact Nat.pow_lt_pow_right (by decide) (by omega)
  have h3 := pk_shlN (n := 1) (nI n &&& 31) n (bt_amt n hn) h2
  rw [Nat.one_mul] at h3
  exact h3
theorem bt_shr {a : Nat} (ha : a < 2 ^ 31) {b : Int} (h0 : 0 ≤ b) (h1 : b < 31) : iI (a : Int) >>> (iI b &&& 31) = iI ((a / 2 ^ b.toNat : Nat) : Int) := by
  obtain ⟨n, rfl⟩ : ∃ n : Nat, b = (n : Int) := ⟨b.toNat, (Int.toNat_of_nonneg h0).symm⟩
  have hn : n < 31 := by omega
  rw [iN, iN, iN, Int.toNat_natCast]
  exact pk_shrN ha (nI n &&& 31) n (bt_amt n hn)
theorem bt_test (k n : Nat) : k &&& 2 ^ n = 0 ↔ k.testBit n = false := by
  constructor
  · intro h
    have h1 : (k &&& 2 ^ n).testBit n = false := by rw [h]; simp
    rw [Nat.testBit_and] at h1
    simpa using h1
  · intro h
    apply Nat.eq_of_testBit_eq
    intro i
    rw [Nat.testBit_and]
    by_cases hi : n = i
    · subst hi; simp [h]
    · first | (simp [Nat.testBit_two_pow, hi]; done) | (simp [Nat.testBit_two_pow_of_ne hi]; done)
theorem bt_test2 (k n : Nat) : k / 2 ^ n % 2 = 0 ↔ k.testBit n = false := by
  rw [Nat.testBit_eq_decide_div_mod_eq]
  simp
theorem bt_and_lt {a b n : Nat} (h : b < 2 ^ n) : a &&& b < 2 ^ n := Nat.lt_of_le_of_lt Nat.and_le_right h
theorem bt_pow_lt {b : Int} {n : Nat} (h1 : b < n) : 2 ^ b.toNat < 2 ^ n ∨ n = 0 := by
  by_cases h : n = 0
  · exact Or.inr h
  · exact Or.inl (Nat.pow_lt_pow_right (by decide) (by omega))
section BT
variable {p : Program} {l : Launch} {e : Env} {R : Room} {s : State} {m : MethodId} {args : Array Value} {below : List Frame} {meth : Method} {c : Code} {H : Heap} {locs : List Loc} {cells slots : Nat} {Q : State → Prop}
variable {g : gT} {own : String} {cc : ByteArray} {nL : Nat} {S S' : gSt} {pc : Nat} {ls : Array Slot} {rest : List Value}
theorem bi_and {a b : Nat} (hx : p.tables.exec = Jvm.exec) (hb : c.code = cc) (hdg : decode cc pc = .ok (.iand, 1))
    (k : W p l e R s m args below meth c H locs cells slots Q (F0 m (pc + 1) ls (.int (iI ((a &&& b : Nat) : Int)) :: rest))) : W p l e R s m args below meth c H locs cells slots Q (F0 m pc ls (.int (iI (b : Int)) :: .int (iI (a : Int)) :: rest)) := lv_iand hx hb hdg (by rw [bt_and]; exact k)
theorem bi_or {a b : Nat} (hx : p.tables.exec = Jvm.exec) (hb : c.code = cc) (hdg : decode cc pc = .ok (.ior, 1))
    (k : W p l e R s m args below meth c H locs cells slots Q (F0 m (pc + 1) ls (.int (iI ((a ||| b : Nat) : Int)) :: rest))) : W p l e R s m args below meth c H locs cells slots Q (F0 m pc ls (.int (iI (b : Int)) :: .int (iI (a : Int)) :: rest)) := lv_ior hx hb hdg (by rw [bt_or]; exact k)
theorem bi_shl {b : Int} (hx : p.tables.exec = Jvm.exec) (hb : c.code = cc) (hdg : decode cc pc = .ok (.ishl, 1)) (h0 : 0 ≤ b) (h1 : b < 31)
    (k : W p l e R s m args below meth c H locs cells slots Q (F0 m (pc + 1) ls (.int (iI ((2 ^ b.toNat : Nat) : Int)) :: rest))) : W p l e R s m args below meth c H locs cells slots Q (F0 m pc ls (.int (iI b) :: .int (iI 1) :: rest)) := lv_ishl hx hb hdg (by rw [bt_shl h0 h1]; exact k)
theorem bi_shr {a : Nat} {b : Int} (hx : p.tables.exec = Jvm.exec) (hb : c.code = cc) (hdg : decode cc pc = .ok (.ishr, 1)) (ha : a < 2 ^ 31) (h0 : 0 ≤ b) (h1 : b < 31)
    (k : W p l e R s m args below meth c H locs cells slots Q (F0 m (pc + 1) ls (.int (iI ((a / 2 ^ b.toNat : Nat) : Int)) :: rest))) : W p l e R s m args below meth c H locs cells slots Q (F0 m pc ls (.int (iI b) :: .int (iI (a : Int)) :: rest)) := lv_ishr hx hb hdg (by rw [bt_shr ha h0 h1]; exact k)
theorem bi_alen {own : String} (C0 : Ct p s m args c g own cc nL) (hH : Hp g S s H locs) (k n : Nat) (he : (Wl g S)[k]? = some (kA g S k n)) (hdg : decode cc pc = .ok (.arraylength, 1))
    (kk : W p l e R s m args below meth c H locs cells slots Q (F0 m (pc + 1) ls (.int (iI (n : Int)) :: rest))) : W p l e R s m args below meth c H locs cells slots Q (F0 m pc ls (.ref (g.1 k) :: rest)) :=
  va_alen (v := iI (n : Int)) C0.1 C0.2.1 C0.2.2.2.2.1.k hH.1 k 0 he rfl (iI_nat n) hdg kk
end BT
/-! ===== filling, names ===== -/
def fillA (n v : Int) (F : Int → Int) : Int → Int := fun j => if 0 ≤ j ∧ j < n then v else F j
theorem fillA_0 (v : Int) (F : Int → Int) : fillA 0 v F = F := by funext j; unfold fillA; rw [if_neg (by omega)]
theorem fillA_s {i : Int} (v : Int) (F : Int → Int) (h : 0 ≤ i) : ud (fillA i v F) i v = fillA (i + 1) v F := by
  funext j; unfold ud fillA
  by_cases h1 : j = i
  · rw [if_pos h1, if_pos (by omega)]
  · rw [if_neg h1]
    by_cases h2 : 0 ≤ j ∧ j < i
    · rw [if_pos h2, if_pos (by omega)]
    · rw [if_neg h2, if_neg (by omega)]
/-- the first free name of figure f with v votes, where it has none yet -/
def gnQ (T : Int → Int) (k : Nat) (f v : Int) : Int → Bool := fun n => !k.testBit n.toNat && decide (T (f * 10 + n) = v)
def gnI (G T : Int → Int) (k : Nat) (f v : Int) : Int := if G f = -1 then fdF (gnQ T k f v) (10 : Int).toNat 0 else -1
def gnR (x : Int) : Nat := if x = -1 then 0 else 2 ^ x.toNat
def gnF (G : Int → Int) (f x : Int) : Int → Int := if x = -1 then G else ud G f x
abbrev gnT : Type := (Int → Int) × Nat
def gnA (T : Int → Int) (v : Int) : Int → gnT → gnT := fun f q => (gnF q.1 f (gnI q.1 T q.2 f v), q.2 ||| gnR (gnI q.1 T q.2 f v))
def gnB (T : Int → Int) (nf : Int) : Int → gnT → gnT := fun i q => lpF (gnA T (6 - i)) nf.toNat 0 q
def nmI (T G : Int → Int) : Int → Int := (lpF (gnB T 8) (6 : Int).toNat 0 (fillA 8 (-1) G, 0)).1
theorem gnI_b (G T : Int → Int) (k : Nat) (f v : Int) : gnI G T k f v = -1 ∨ (0 ≤ gnI G T k f v ∧ gnI G T k f v < 10) := by
  unfold gnI
  split
  · have := fdF_b (p := gnQ T k f v) (10 : Int).toNat 0 (by omega)
    omega
  · exact Or.inl rfl
theorem gnR_b (G T : Int → Int) (k : Nat) (f v : Int) : gnR (gnI G T k f v) < 1024 := by
  unfold gnR
  split
  · decide
  · have := gnI_b G T k f v
    exact Nat.lt_of_lt_of_le (Nat.pow_lt_pow_right (by decide) (show (gnI G T k f v).toNat < 10 by omega)) (by decide)
theorem or_1024 {a b : Nat} (h : a < 1024) (h2 : b < 1024) : a ||| b < 1024 := Nat.or_lt_two_pow (n := 10) h h2
def cnS (S : gSt) (f n d : Int) : gSt := if n = -1 then S else st S 10 (f * 10 + n) (S 10 (f * 10 + n) + d)
def gvS (S : gSt) : gSt := sA S 11 (nmI (S 10) (S 11))
def rpS (S : gSt) (v f n : Int) : gSt := gvS (cnS (cnS (st S 9 (v * 8 + f) n) f (S 9 (v * 8 + f)) (-1)) f n 1)
theorem cnS_10 (S : gSt) (f n d : Int) (hd : -1 ≤ d ∧ d ≤ 1) (j B : Int) (h : ∀ j, 0 ≤ j → j < 80 → -B ≤ S 10 j ∧ S 10 j ≤ B) (h0 : 0 ≤ j) (h1 : j < 80) : -(B + 1) ≤ cnS S f n d 10 j ∧ cnS S f n d 10 j ≤ B + 1 := by
  have hj := h j h0 h1
  unfold cnS
  split
  · omega
  · show _ ≤ ud (S 10) _ _ j ∧ ud (S 10) _ _ j ≤ _
    unfold ud
    split
    · next e => rw [← e]; omega
    · omega
theorem cnS_n {S : gSt} {f n d : Int} {a : Nat} (h : a ≠ 10) : cnS S f n d a = S a := by
  unfold cnS
  split
  · rfl
  · exact if_neg h
theorem gnF_b {G T : Int → Int} {k : Nat} {f v : Int} (h : ∀ j : Int, 0 ≤ j → j < 8 → -1 ≤ G j ∧ G j < 10) : ∀ j : Int, 0 ≤ j → j < 8 → -1 ≤ gnF G f (gnI G T k f v) j ∧ gnF G f (gnI G T k f v) j < 10 := by
  intro j h0 h1
  have hj := h j h0 h1
  have hb := gnI_b G T k f v
  unfold gnF
  split
  · exact hj
  · unfold ud
    split
    · omega
    · exact hj
theorem nm_in {T : Int → Int} {v : Int} {q : gnT} (h : 0 < v) : lpF (gnB T 8) v.toNat (6 - v) q = lpF (gnB T 8) (v - 1).toNat (7 - v) (lpF (gnA T v) (8 - (0 : Int)).toNat 0 q) := by
  rw [show v.toNat = (v - 1).toNat + 1 by omega]
  show lpF (gnB T 8) (v - 1).toNat (6 - v + 1) (lpF (gnA T (6 - (6 - v))) (8 : Int).toNat 0 q) = _
  rw [show 6 - v + 1 = 7 - v by omega, show 6 - (6 - v) = v by omega]
  rfl
end
section
set_option maxRecDepth 100000 in
set_option maxHeartbeats 4000000 in
theorem c_X3_keep (l : Launch) (g : gT) (S : gSt) (a b v u w : Int) (hn : 0 ≤ S 17 0 ∧ S 17 0 < 30) (hk : 0 ≤ S 17 1 ∧ S 17 1 ≤ 30) : MetG l g yX3_keep cX3_keep 6 none 1 21 [.ref (g.1 17), .int (iI a), .int (iI b), .int (iI v), .int (iI u), .int (iI w)] S none (kpS S a b v u w) := by
  refine bodyG (by decide +kernel) (Nat.le_of_ble_eq_true rfl) ?_
  intro p e s m args below meth c ls C0 hret hlk hl hH
  have zx := C0.1
  have zb := C0.2.1
  have hl : lv_has ls 6 [(0, .ref (g.1 17)), (1, .int (iI a)), (2, .int (iI b)), (3, .int (iI v)), (4, .int (iI u)), (5, .int (iI w))] := hl
  obtain ⟨H, hHe⟩ : ∃ H : Heap, H = s.heap := ⟨_, rfl⟩
  rw [show (Hp g S s s.heap []) = Hp g S s H [] by rw [hHe]] at hH
  rw [← hHe]
  refine lv_aload_n zx zb dX3_keep_0 rfl (lv_at hl 0 rfl) ?_
  refine gf_X3_9 C0 hH dX3_keep_1 ?_
  refine lv_aload_n zx zb dX3_keep_4 rfl (lv_at hl 0 rfl) ?_
  refine gf_X3_27 C0 hH dX3_keep_5 ?_
  refine lv_iload_n zx zb dX3_keep_8 rfl (lv_at hl 1 rfl) ?_
  refine as_18 C0 hH (by omega) (by omega) dX3_keep_9 (fun H locs hH => ?_)
  refine lv_aload_n zx zb dX3_keep_10 rfl (lv_at hl 0 rfl) ?_
  refine gf_X3_15 C0 hH dX3_keep_11 ?_
  refine lv_aload_n zx zb dX3_keep_14 rfl (lv_at hl 0 rfl) ?_
  refine gf_X3_27 C0 hH dX3_keep_15 ?_
  show W p l e _ s m args below meth c H _ _ _ _ (F0 m 18 ls [.int (iI (S 17 0)), .ref (g.1 19)])
  refine lv_iload_n zx zb dX3_keep_18 rfl (lv_at hl 2 rfl) ?_
  refine as_19 C0 hH (by omega) (by omega) dX3_keep_19 (fun H locs hH => ?_)
  refine lv_aload_n zx zb dX3_keep_20 rfl (lv_at hl 0 rfl) ?_
  refine gf_X3_18 C0 hH dX3_keep_21 ?_
  refine lv_aload_n zx zb dX3_keep_24 rfl (lv_at hl 0 rfl) ?_
  refine gf_X3_27 C0 hH dX3_keep_25 ?_
  show W p l e _ s m args below meth c H _ _ _ _ (F0 m 28 ls [.int (iI (S 17 0)), .ref (g.1 20)])
  refine lv_iload_n zx zb dX3_keep_28 rfl (lv_at hl 3 rfl) ?_
  refine as_20 C0 hH (by omega) (by omega) dX3_keep_29 (fun H locs hH => ?_)
  refine lv_aload_n zx zb dX3_keep_30 rfl (lv_at hl 0 rfl) ?_
  refine gf_X3_21 C0 hH dX3_keep_31 ?_
  refine lv_aload_n zx zb dX3_keep_34 rfl (lv_at hl 0 rfl) ?_
  refine gf_X3_27 C0 hH dX3_keep_35 ?_
  show W p l e _ s m args below meth c H _ _ _ _ (F0 m 38 ls [.int (iI (S 17 0)), .ref (g.1 21)])
  refine lv_iload zx zb dX3_keep_38 (lv_at hl 4 rfl) ?_
  refine as_21 C0 hH (by omega) (by omega) dX3_keep_40 (fun H locs hH => ?_)
  refine lv_aload_n zx zb dX3_keep_41 rfl (lv_at hl 0 rfl) ?_
  refine gf_X3_24 C0 hH dX3_keep_42 ?_
  refine lv_aload_n zx zb dX3_keep_45 rfl (lv_at hl 0 rfl) ?_
  refine gf_X3_27 C0 hH dX3_keep_46 ?_
  show W p l e _ s m args below meth c H _ _ _ _ (F0 m 49 ls [.int (iI (S 17 0)), .ref (g.1 22)])
  refine lv_iload zx zb dX3_keep_49 (lv_at hl 5 rfl) ?_
  refine as_22 C0 hH (by omega) (by omega) dX3_keep_51 (fun H locs hH => ?_)
  refine lv_aload_n zx zb dX3_keep_52 rfl (lv_at hl 0 rfl) ?_
  refine lv_aload_n zx zb dX3_keep_53 rfl (lv_at hl 0 rfl) ?_
  refine gf_X3_27 C0 hH dX3_keep_54 ?_
  show W p l e _ s m args below meth c H _ _ _ _ (F0 m 57 ls [.int (iI (S 17 0)), .ref (g.1 17)])
  refine bi_const (n := 1) zx zb dX3_keep_57 ?_
  refine bi_add zx zb dX3_keep_58 ?_
  refine bi_bip (n := 30) zx zb dX3_keep_59 (by decide) ?_
  refine bi_rem zx zb dX3_keep_61 ⟨by omega, by omega⟩ ⟨by omega, by omega⟩ (by omega) ?_
  rw [tm_p (show 0 ≤ S 17 0 + 1 by omega)]
  refine pf_X3_27 C0 hH dX3_keep_62 (fun H locs hH => ?_)
  refine lv_aload_n zx zb dX3_keep_65 rfl (lv_at hl 0 rfl) ?_
  refine lv_aload_n zx zb dX3_keep_66 rfl (lv_at hl 0 rfl) ?_
  refine gf_X3_31 C0 hH dX3_keep_67 ?_
  show W p l e _ s m args below meth c H _ _ _ _ (F0 m 70 ls [.int (iI (S 17 1)), .ref (g.1 17)])
  refine bi_const (n := 1) zx zb dX3_keep_70 ?_
  refine bi_add zx zb dX3_keep_71 ?_
  refine bi_bip (n := 30) zx zb dX3_keep_72 (by decide) ?_
  refine csI (rest := [.ref (g.1 17)]) (As := [.int (iI ((S 17 1) + 1)), .int (iI 30)]) C0 hH (c_J9_min_7cf53 l g (st (st (st (st (st (st S 18 (S 17 0) a) 19 (S 17 0) b) 20 (S 17 0) v) 21 (S 17 0) u) 22 (S 17 0) w) 17 0 (((S 17 0) + 1) % 30)) ((S 17 1) + 1) 30 (by omega) (by omega)) kw_X3_34 ky_J9_min_7cf53 ⟨Nat.le_of_ble_eq_true rfl, Nat.le_of_ble_eq_true rfl⟩ ⟨Nat.zero_le _, Nat.zero_le _⟩ rfl hl.1 rfl (Nat.le_of_ble_eq_true rfl) dX3_keep_74 (fun H locs hH => ?_)
  refine pf_X3_31 C0 hH dX3_keep_77 (fun H locs hH => ?_)
  exact retV C0 hret hlk hH (rfl) dX3_keep_80
set_option maxRecDepth 100000 in
set_option maxHeartbeats 4000000 in
theorem c_X3_stepBack (l : Launch) (g : gT) (S : gSt) (hn : 0 ≤ S 17 0 ∧ S 17 0 < 30) (hk : 0 ≤ S 17 1 ∧ S 17 1 ≤ 30) : MetG l g yX3_stepBack cX3_stepBack 1 none 0 0 [.ref (g.1 17)] S none (sbS S) := by
  refine bodyG (by decide +kernel) (Nat.le_of_ble_eq_true rfl) ?_
  intro p e s m args below meth c ls C0 hret hlk hl hH
  have zx := C0.1
  have zb := C0.2.1
  have hl : lv_has ls 1 [(0, .ref (g.1 17))] := hl
  obtain ⟨H, hHe⟩ : ∃ H : Heap, H = s.heap := ⟨_, rfl⟩
  rw [show (Hp g S s s.heap []) = Hp g S s H [] by rw [hHe]] at hH
  rw [← hHe]
  refine lv_aload_n zx zb dX3_stepBack_0 rfl (lv_at hl 0 rfl) ?_
  refine lv_aload_n zx zb dX3_stepBack_1 rfl (lv_at hl 0 rfl) ?_
  refine gf_X3_27 C0 hH dX3_stepBack_2 ?_
  refine bi_bip (n := 30) zx zb dX3_stepBack_5 (by decide) ?_
  refine bi_add zx zb dX3_stepBack_7 ?_
  refine bi_const (n := 1) zx zb dX3_stepBack_8 ?_
  refine bi_sub zx zb dX3_stepBack_9 ?_
  refine bi_bip (n := 30) zx zb dX3_stepBack_10 (by decide) ?_
  refine bi_rem zx zb dX3_stepBack_12 ⟨by omega, by omega⟩ ⟨by omega, by omega⟩ (by omega) ?_
  rw [tm_p (show 0 ≤ S 17 0 + 30 - 1 by omega), show S 17 0 + 30 - 1 = S 17 0 + 29 by omega]
  refine pf_X3_27 C0 hH dX3_stepBack_13 (fun H locs hH => ?_)
  refine lv_aload_n zx zb dX3_stepBack_16 rfl (lv_at hl 0 rfl) ?_
  refine lv_dup zx zb dX3_stepBack_17 rfl ?_
  refine gf_X3_31 C0 hH dX3_stepBack_18 ?_
  show W p l e _ s m args below meth c H _ _ _ _ (F0 m 21 ls [.int (iI (S 17 1)), .ref (g.1 17)])
  refine bi_const (n := 1) zx zb dX3_stepBack_21 ?_
  refine bi_sub zx zb dX3_stepBack_22 ?_
  refine pf_X3_31 C0 hH dX3_stepBack_23 (fun H locs hH => ?_)
  exact retV C0 hret hlk hH (rfl) dX3_stepBack_26
set_option maxRecDepth 100000 in
set_option maxHeartbeats 4000000 in
theorem c_X4_append (l : Launch) (g : gT) (S : gSt) (a b v u : Int) (hn : 0 ≤ S 12 0 ∧ S 12 0 < 12) : MetG l g yX4_append cX4_append 6 (some .int) 0 0 [.ref (g.1 12), .int (iI a), .int (iI b), .int (iI v), .int (iI u)] S (some (.int (iI (S 12 0)))) (apS S a b v u) := by
  refine bodyG (by decide +kernel) (Nat.le_of_ble_eq_true rfl) ?_
  intro p e s m args below meth c ls C0 hret hlk hl hH
  have zx := C0.1
  have zb := C0.2.1
  have hl : lv_has ls 6 [(0, .ref (g.1 12)), (1, .int (iI a)), (2, .int (iI b)), (3, .int (iI v)), (4, .int (iI u))] := hl
  obtain ⟨H, hHe⟩ : ∃ H : Heap, H = s.heap := ⟨_, rfl⟩
  rw [show (Hp g S s s.heap []) = Hp g S s H [] by rw [hHe]] at hH
  rw [← hHe]
  refine lv_aload_n zx zb dX4_append_0 rfl (lv_at hl 0 rfl) ?_
  refine gf_X4_24 C0 hH dX4_append_1 ?_
  refine lv_istore (lv' := [(5, .int (iI (S 12 0))), (0, .ref (g.1 12)), (1, .int (iI a)), (2, .int (iI b)), (3, .int (iI v)), (4, .int (iI u))]) zx zb dX4_append_4 hl (by decide) rfl (fun ls hl => ?_)
  refine lv_iload zx zb dX4_append_6 (lv_at hl 0 rfl) ?_
  refine bi_bip (n := 12) zx zb dX4_append_8 (by decide) ?_
  refine bq_ge (tgt := 56) zx zb dX4_append_10 (by decide) ⟨by omega, by omega⟩ ⟨by omega, by omega⟩ (fun zq10 => ?_) (fun zq10 => ?_)
  · exact absurd zq10 (by omega)
  · refine lv_aload_n zx zb dX4_append_13 rfl (lv_at hl 1 rfl) ?_
    refine gf_X4_9 C0 hH dX4_append_14 ?_
    refine lv_iload zx zb dX4_append_17 (lv_at hl 0 rfl) ?_
    refine lv_iload_n zx zb dX4_append_19 rfl (lv_at hl 2 rfl) ?_
    refine as_13 C0 hH (by omega) (by omega) dX4_append_20 (fun H locs hH => ?_)
    refine lv_aload_n zx zb dX4_append_21 rfl (lv_at hl 1 rfl) ?_
    refine gf_X4_15 C0 hH dX4_append_22 ?_
    refine lv_iload zx zb dX4_append_25 (lv_at hl 0 rfl) ?_
    refine lv_iload_n zx zb dX4_append_27 rfl (lv_at hl 3 rfl) ?_
    refine as_14 C0 hH (by omega) (by omega) dX4_append_28 (fun H locs hH => ?_)
    refine lv_aload_n zx zb dX4_append_29 rfl (lv_at hl 1 rfl) ?_
    refine gf_X4_18 C0 hH dX4_append_30 ?_
    refine lv_iload zx zb dX4_append_33 (lv_at hl 0 rfl) ?_
    refine lv_iload_n zx zb dX4_append_35 rfl (lv_at hl 4 rfl) ?_
    refine as_15 C0 hH (by omega) (by omega) dX4_append_36 (fun H locs hH => ?_)
    refine lv_aload_n zx zb dX4_append_37 rfl (lv_at hl 1 rfl) ?_
    refine gf_X4_21 C0 hH dX4_append_38 ?_
    refine lv_iload zx zb dX4_append_41 (lv_at hl 0 rfl) ?_
    refine lv_iload zx zb dX4_append_43 (lv_at hl 5 rfl) ?_
    refine as_16 C0 hH (by omega) (by omega) dX4_append_45 (fun H locs hH => ?_)
    refine lv_aload_n zx zb dX4_append_46 rfl (lv_at hl 1 rfl) ?_
    refine lv_dup zx zb dX4_append_47 rfl ?_
    refine gf_X4_24 C0 hH dX4_append_48 ?_
    show W p l e _ s m args below meth c H _ _ _ _ (F0 m 51 ls [.int (iI (S 12 0)), .ref (g.1 12)])
    refine bi_const (n := 1) zx zb dX4_append_51 ?_
    refine bi_add zx zb dX4_append_52 ?_
    refine pf_X4_24 C0 hH dX4_append_53 (fun H locs hH => ?_)
    refine lv_iload zx zb dX4_append_56 (lv_at hl 0 rfl) ?_
    exact retI C0 hret hlk hH (by rfl) (rfl) dX4_append_58
end
section
set_option maxRecDepth 100000 in
set_option maxHeartbeats 4000000 in
theorem c_J7_fill_53178 (l : Launch) (g : gT) (S : gSt) (v : Int)  : MetG l g yJ7_fill_53178 cJ7_fill_53178 4 none 0 0 [.ref (g.1 11), .int (iI v)] S none (sA S 11 (fillA 8 v (S 11))) := by
  refine bodyG (by decide +kernel) (Nat.le_of_ble_eq_true rfl) ?_
  intro p e s m args below meth c ls C0 hret hlk hl hH
  have zx := C0.1
  have zb := C0.2.1
  have hl : lv_has ls 4 [(0, .ref (g.1 11)), (1, .int (iI v))] := hl
  have L5 : ∀ (μ : Nat) (i : Int), (8 - i).toNat = μ → (0 ≤ i ∧ i ≤ 8) → ∀ (H : Heap) (locs : List Loc), Hp g (sA S 11 (fillA i v (S 11))) s H locs → ∀ ls : Array Slot, lv_has ls 4 [(0, .ref (g.1 11)), (1, .int (iI v)), (2, .int (iI i)), (3, .int (iI 8))] → W p l e { frames := 0, cells := 0, slots := 0, locals := 0 } s m args below meth c H locs 0 0 (MQ below (RetG g none (sA S 11 (fillA 8 v (S 11)))) args s 0 0 (oA g)) (F0 m 5 ls []) := by
    refine lpN (fun μ5 ih5 => ?_)
    intro i hμ5 hi H locs hH ls hl
    refine lv_iload_n zx zb dJ7_fill_53178_5 rfl (lv_at hl 2 rfl) ?_
    refine lv_iload_n zx zb dJ7_fill_53178_6 rfl (lv_at hl 3 rfl) ?_
    refine bq_ge (tgt := 20) zx zb dJ7_fill_53178_7 (by decide) ⟨by omega, by omega⟩ ⟨by omega, by omega⟩ (fun zq7 => ?_) (fun zq7 => ?_)
    · exact retV C0 hret hlk hH (by rw [show i = 8 by omega]) dJ7_fill_53178_20
    · refine lv_aload_n zx zb dJ7_fill_53178_10 rfl (lv_at hl 0 rfl) ?_
      refine lv_iload_n zx zb dJ7_fill_53178_11 rfl (lv_at hl 2 rfl) ?_
      refine lv_iload_n zx zb dJ7_fill_53178_12 rfl (lv_at hl 1 rfl) ?_
      refine as_11 C0 hH (by omega) (by omega) dJ7_fill_53178_13 (fun H locs hH => ?_)
      refine bi_inc (k0 := 2) (n := 1) (lv' := [(2, .int (iI (i + 1))), (0, .ref (g.1 11)), (1, .int (iI v)), (3, .int (iI 8))]) zx zb dJ7_fill_53178_14 hl rfl (by decide) rfl (fun ls hl => ?_)
      refine lv_goto (tgt := 5) zx zb dJ7_fill_53178_17 (by decide) ?_
      exact ih5 ((8 - (i + 1)).toNat) (by omega) (i + 1) rfl (by omega) _ _ (hp_eq (by rw [st_sA, sA_sA, sA_s, fillA_s _ _ hi.1]) hH) ls (lv_sub hl [1, 2, 0, 3] rfl)
  obtain ⟨H, hHe⟩ : ∃ H : Heap, H = s.heap := ⟨_, rfl⟩
  rw [show (Hp g S s s.heap []) = Hp g S s H [] by rw [hHe]] at hH
  rw [← hHe]
  refine bi_const (n := 0) zx zb dJ7_fill_53178_0 ?_
  refine lv_istore_n (lv' := [(2, .int (iI 0)), (0, .ref (g.1 11)), (1, .int (iI v))]) zx zb dJ7_fill_53178_1 rfl hl (by decide) rfl (fun ls hl => ?_)
  refine lv_aload_n zx zb dJ7_fill_53178_2 rfl (lv_at hl 1 rfl) ?_
  refine bi_alen C0 hH 11 8 rfl dJ7_fill_53178_3 ?_
  refine lv_istore_n (lv' := [(3, .int (iI 8)), (2, .int (iI 0)), (0, .ref (g.1 11)), (1, .int (iI v))]) zx zb dJ7_fill_53178_4 rfl hl (by decide) rfl (fun ls hl => ?_)
  exact L5 _ 0 rfl (by omega) _ _ (hp_eq (by rw [fillA_0, sA_id]) hH) ls (lv_sub hl [2, 3, 1, 0] rfl)
set_option maxRecDepth 100000 in
set_option maxHeartbeats 4000000 in
theorem c_X1_giveName (l : Launch) (g : gT) (S : gSt) (k : Nat) (f v : Int) (hf : 0 ≤ f ∧ f < 8) (hv : 0 ≤ v ∧ v ≤ 6) (hk : k < 1024) (hT : ∀ j : Int, 0 ≤ j → j < 80 → -100 ≤ S 10 j ∧ S 10 j ≤ 100) (hG : ∀ j : Int, 0 ≤ j → j < 8 → -1 ≤ S 11 j ∧ S 11 j < 10) : MetG l g yX1_giveName cX1_giveName 6 (some .int) 0 0 [.ref (g.1 8), .int (iI f), .int (iI v), .int (iI ((k : Nat) : Int))] S (some (.int (iI ((gnR (gnI (S 11) (S 10) k f v) : Nat) : Int)))) (sA S 11 (gnF (S 11) f (gnI (S 11) (S 10) k f v))) := by
  refine bodyG (by decide +kernel) (Nat.le_of_ble_eq_true rfl) ?_
  intro p e s m args below meth c ls C0 hret hlk hl hH
  have zx := C0.1
  have zb := C0.2.1
  have hl : lv_has ls 6 [(0, .ref (g.1 8)), (1, .int (iI f)), (2, .int (iI v)), (3, .int (iI ((k : Nat) : Int)))] := hl
  have L3 : ∀ (μ : Nat) (i : Int), (10 - i).toNat = μ → (0 ≤ i ∧ i ≤ 10) → (gnI (S 11) (S 10) k f v = if S 11 f = -1 then fdF (gnQ (S 10) k f v) (10 - i).toNat i else -1) → ∀ (H : Heap) (locs : List Loc), Hp g S s H locs → ∀ ls : Array Slot, lv_has ls 6 [(0, .ref (g.1 8)), (1, .int (iI f)), (2, .int (iI v)), (3, .int (iI ((k : Nat) : Int))), (4, .int (iI i))] → W p l e { frames := 0, cells := 0, slots := 0, locals := 0 } s m args below meth c H locs 0 0 (MQ below (RetG g (some (.int (iI ((gnR (gnI (S 11) (S 10) k f v) : Nat) : Int)))) (sA S 11 (gnF (S 11) f (gnI (S 11) (S 10) k f v)))) args s 0 0 (oA g)) (F0 m 3 ls []) := by
    refine lpN (fun μ3 ih3 => ?_)
    intro i hμ3 hi hR H locs hH ls hl
    refine lv_iload zx zb dX1_giveName_3 (lv_at hl 4 rfl) ?_
    refine bi_bip (n := 10) zx zb dX1_giveName_5 (by decide) ?_
    refine bq_ge (tgt := 76) zx zb dX1_giveName_7 (by decide) ⟨by omega, by omega⟩ ⟨by omega, by omega⟩ (fun zq7 => ?_) (fun zq7 => ?_)
    · refine bi_const (n := 0) zx zb dX1_giveName_76 ?_
      exact retI C0 hret hlk hH (by rw [hR]; first | (rw [fdF_e (by omega), ite_self]; rfl) | (rw [if_neg zq17]; rfl)) (by rw [hR]; first | (rw [fdF_e (by omega), ite_self]; unfold gnF; rw [if_pos rfl, sA_id]) | (rw [if_neg zq17]; unfold gnF; rw [if_pos rfl, sA_id])) dX1_giveName_77
    · have hg := hG f hf.1 hf.2
      refine lv_aload_n zx zb dX1_giveName_10 rfl (lv_at hl 0 rfl) ?_
      refine gf_X1_18 C0 hH dX1_giveName_11 ?_
      refine lv_iload_n zx zb dX1_giveName_14 rfl (lv_at hl 1 rfl) ?_
      refine al_11 C0 hH (by omega) (by omega) dX1_giveName_15 ?_
      refine bi_const (n := (-1)) zx zb dX1_giveName_16 ?_
      refine bq_ne (tgt := 76) zx zb dX1_giveName_17 (by decide) ⟨by omega, by omega⟩ ⟨by omega, by omega⟩ (fun zq17 => ?_) (fun zq17 => ?_)
      · refine bi_const (n := 0) zx zb dX1_giveName_76 ?_
        exact retI C0 hret hlk hH (by rw [hR]; first | (rw [fdF_e (by omega), ite_self]; rfl) | (rw [if_neg zq17]; rfl)) (by rw [hR]; first | (rw [fdF_e (by omega), ite_self]; unfold gnF; rw [if_pos rfl, sA_id]) | (rw [if_neg zq17]; unfold gnF; rw [if_pos rfl, sA_id])) dX1_giveName_77
      · refine lv_iload_n zx zb dX1_giveName_20 rfl (lv_at hl 3 rfl) ?_
        refine bi_const (n := 1) zx zb dX1_giveName_21 ?_
        refine lv_iload zx zb dX1_giveName_22 (lv_at hl 4 rfl) ?_
        refine bi_shl zx zb dX1_giveName_24 (by omega) (by omega) ?_
        refine bi_and (a := k) (b := 2 ^ i.toNat) zx zb dX1_giveName_25 ?_
        have hz26 : (k &&& 2 ^ i.toNat : Nat) < 2 ^ 10 := bt_and_lt (Nat.pow_lt_pow_right (by decide) (by omega))
        refine bz_ne (tgt := 33) zx zb dX1_giveName_26 (by decide) ⟨by omega, by omega⟩ (fun zq26 => ?_) (fun zq26 => ?_)
        · refine bi_const (n := 0) zx zb dX1_giveName_33 ?_
          refine lv_istore (lv' := [(5, .int (iI 0)), (0, .ref (g.1 8)), (1, .int (iI f)), (2, .int (iI v)), (3, .int (iI ((k : Nat) : Int))), (4, .int (iI i))]) zx zb dX1_giveName_34 hl (by decide) rfl (fun ls hl => ?_)
          refine lv_iload zx zb dX1_giveName_36 (lv_at hl 0 rfl) ?_
          refine bz_eq (tgt := 70) zx zb dX1_giveName_38 (by decide) ⟨by omega, by omega⟩ (fun zq38 => ?_) (fun zq38 => ?_)
          · refine bi_inc (k0 := 5) (n := 1) (lv' := [(4, .int (iI (i + 1))), (5, .int (iI 0)), (0, .ref (g.1 8)), (1, .int (iI f)), (2, .int (iI v)), (3, .int (iI ((k : Nat) : Int)))]) zx zb dX1_giveName_70 hl rfl (by decide) rfl (fun ls hl => ?_)
            refine lv_goto (tgt := 3) zx zb dX1_giveName_73 (by decide) ?_
            exact ih3 ((10 - (i + 1)).toNat) (by omega) (i + 1) rfl (by omega) (by rw [hR, if_pos zq17, if_pos zq17, fdF_t zq7 (by unfold gnQ; first | (rw [decide_eq_false zq54, Bool.and_false]; done) | (cases hzc : k.testBit i.toNat; exact absurd (by rw [(bt_test k i.toNat).mpr hzc]; rfl) zq26; rfl))]) _ _ hH ls (lv_sub hl [2, 3, 4, 5, 0] rfl)
          · exact absurd zq38 (by decide)
        · refine bi_const (n := 1) zx zb dX1_giveName_29 ?_
          refine lv_goto (tgt := 34) zx zb dX1_giveName_30 (by decide) ?_
          refine lv_istore (lv' := [(5, .int (iI 1)), (0, .ref (g.1 8)), (1, .int (iI f)), (2, .int (iI v)), (3, .int (iI ((k : Nat) : Int))), (4, .int (iI i))]) zx zb dX1_giveName_34 hl (by decide) rfl (fun ls hl => ?_)
          refine lv_iload zx zb dX1_giveName_36 (lv_at hl 0 rfl) ?_
          refine bz_eq (tgt := 70) zx zb dX1_giveName_38 (by decide) ⟨by omega, by omega⟩ (fun zq38 => ?_) (fun zq38 => ?_)
          · exact absurd zq38 (by decide)
          · have ht := hT (f * 10 + i) (by omega) (by omega)
            refine lv_aload_n zx zb dX1_giveName_41 rfl (lv_at hl 1 rfl) ?_
            refine gf_X1_15 C0 hH dX1_giveName_42 ?_
            refine lv_iload_n zx zb dX1_giveName_45 rfl (lv_at hl 2 rfl) ?_
            refine bi_bip (n := 10) zx zb dX1_giveName_46 (by decide) ?_
            refine bi_mul zx zb dX1_giveName_48 ?_
            refine lv_iload zx zb dX1_giveName_49 (lv_at hl 5 rfl) ?_
            refine bi_add zx zb dX1_giveName_51 ?_
            refine al_10 C0 hH (by omega) (by omega) dX1_giveName_52 ?_
            refine lv_iload_n zx zb dX1_giveName_53 rfl (lv_at hl 3 rfl) ?_
            refine bq_ne (tgt := 70) zx zb dX1_giveName_54 (by decide) ⟨by omega, by omega⟩ ⟨by omega, by omega⟩ (fun zq54 => ?_) (fun zq54 => ?_)
            · refine bi_inc (k0 := 5) (n := 1) (lv' := [(4, .int (iI (i + 1))), (5, .int (iI 1)), (0, .ref (g.1 8)), (1, .int (iI f)), (2, .int (iI v)), (3, .int (iI ((k : Nat) : Int)))]) zx zb dX1_giveName_70 hl rfl (by decide) rfl (fun ls hl => ?_)
              refine lv_goto (tgt := 3) zx zb dX1_giveName_73 (by decide) ?_
              exact ih3 ((10 - (i + 1)).toNat) (by omega) (i + 1) rfl (by omega) (by rw [hR, if_pos zq17, if_pos zq17, fdF_t zq7 (by unfold gnQ; first | (rw [decide_eq_false zq54, Bool.and_false]; done) | (cases hzc : k.testBit i.toNat; exact absurd (by rw [(bt_test k i.toNat).mpr hzc]; rfl) zq26; rfl))]) _ _ hH ls (lv_sub hl [2, 3, 4, 5, 0] rfl)
            · have hz1 : gnQ (S 10) k f v i = true := by unfold gnQ; rw [(bt_test k i.toNat).mp (by omega), decide_eq_true zq54]; rfl
              refine lv_aload_n zx zb dX1_giveName_57 rfl (lv_at hl 1 rfl) ?_
              refine gf_X1_18 C0 hH dX1_giveName_58 ?_
              refine lv_iload_n zx zb dX1_giveName_61 rfl (lv_at hl 2 rfl) ?_
              refine lv_iload zx zb dX1_giveName_62 (lv_at hl 5 rfl) ?_
              refine as_11 C0 hH (by omega) (by omega) dX1_giveName_64 (fun H locs hH => ?_)
              refine bi_const (n := 1) zx zb dX1_giveName_65 ?_
              refine lv_iload zx zb dX1_giveName_66 (lv_at hl 5 rfl) ?_
              refine bi_shl zx zb dX1_giveName_68 (by omega) (by omega) ?_
              exact retI C0 hret hlk hH (by rw [hR, if_pos zq17, fdF_f zq7 hz1]; unfold gnR; rw [if_neg (by omega)]) (by rw [hR, if_pos zq17, fdF_f zq7 hz1]; unfold gnF; rw [if_neg (by omega), st_sA]) dX1_giveName_69
  obtain ⟨H, hHe⟩ : ∃ H : Heap, H = s.heap := ⟨_, rfl⟩
  rw [show (Hp g S s s.heap []) = Hp g S s H [] by rw [hHe]] at hH
  rw [← hHe]
  refine bi_const (n := 0) zx zb dX1_giveName_0 ?_
  refine lv_istore (lv' := [(4, .int (iI 0)), (0, .ref (g.1 8)), (1, .int (iI f)), (2, .int (iI v)), (3, .int (iI ((k : Nat) : Int)))]) zx zb dX1_giveName_1 hl (by decide) rfl (fun ls hl => ?_)
  exact L3 _ 0 rfl (by omega) (by unfold gnI; rfl) _ _ hH ls (lv_sub hl [1, 2, 3, 4, 0] rfl)
set_option maxRecDepth 100000 in
set_option maxHeartbeats 4000000 in
theorem c_X1_count (l : Launch) (g : gT) (S : gSt) (f n d : Int) (hf : 0 ≤ f ∧ f < 8) (hn : -1 ≤ n ∧ n < 10) : MetG l g yX1_count cX1_count 4 none 0 0 [.ref (g.1 8), .int (iI f), .int (iI n), .int (iI d)] S none (cnS S f n d) := by
  refine bodyG (by decide +kernel) (Nat.le_of_ble_eq_true rfl) ?_
  intro p e s m args below meth c ls C0 hret hlk hl hH
  have zx := C0.1
  have zb := C0.2.1
  have hl : lv_has ls 4 [(0, .ref (g.1 8)), (1, .int (iI f)), (2, .int (iI n)), (3, .int (iI d))] := hl
  obtain ⟨H, hHe⟩ : ∃ H : Heap, H = s.heap := ⟨_, rfl⟩
  rw [show (Hp g S s s.heap []) = Hp g S s H [] by rw [hHe]] at hH
  rw [← hHe]
  refine lv_iload_n zx zb dX1_count_0 rfl (lv_at hl 2 rfl) ?_
  refine bi_const (n := (-1)) zx zb dX1_count_1 ?_
  refine bq_eq (tgt := 20) zx zb dX1_count_2 (by decide) ⟨by omega, by omega⟩ ⟨by omega, by omega⟩ (fun zq2 => ?_) (fun zq2 => ?_)
  · exact retV C0 hret hlk hH (by unfold cnS; first | rw [if_pos zq2] | rw [if_neg zq2]) dX1_count_20
  · refine lv_aload_n zx zb dX1_count_5 rfl (lv_at hl 0 rfl) ?_
    refine gf_X1_15 C0 hH dX1_count_6 ?_
    refine lv_iload_n zx zb dX1_count_9 rfl (lv_at hl 1 rfl) ?_
    refine bi_bip (n := 10) zx zb dX1_count_10 (by decide) ?_
    refine bi_mul zx zb dX1_count_12 ?_
    refine lv_iload_n zx zb dX1_count_13 rfl (lv_at hl 2 rfl) ?_
    refine bi_add zx zb dX1_count_14 ?_
    refine lv_dup2_11 zx zb dX1_count_15 rfl rfl ?_
    refine al_10 C0 hH (by omega) (by omega) dX1_count_16 ?_
    refine lv_iload_n zx zb dX1_count_17 rfl (lv_at hl 3 rfl) ?_
    refine bi_add zx zb dX1_count_18 ?_
    refine as_10 C0 hH (by omega) (by omega) dX1_count_19 (fun H locs hH => ?_)
    exact retV C0 hret hlk hH (by unfold cnS; first | rw [if_pos zq2] | rw [if_neg zq2]) dX1_count_20
set_option maxRecDepth 100000 in
set_option maxHeartbeats 4000000 in
theorem c_X1_giveNames (l : Launch) (g : gT) (S : gSt) (hT : ∀ j : Int, 0 ≤ j → j < 80 → -100 ≤ S 10 j ∧ S 10 j ≤ 100) : MetG l g yX1_giveNames cX1_giveNames 4 none 1 25 [.ref (g.1 8)] S none (gvS S) := by
  refine bodyG (by decide +kernel) (Nat.le_of_ble_eq_true rfl) ?_
  intro p e s m args below meth c ls C0 hret hlk hl hH
  have zx := C0.1
  have zb := C0.2.1
  have hl : lv_has ls 4 [(0, .ref (g.1 8))] := hl
  have L13 : ∀ (μ : Nat) (k : Nat) (v : Int) (G : Int → Int), v.toNat = μ → (k < 1024) → (0 ≤ v ∧ v ≤ 6) → (∀ j : Int, 0 ≤ j → j < 8 → -1 ≤ G j ∧ G j < 10) → (nmI (S 10) (S 11) = (lpF (gnB (S 10) 8) v.toNat (6 - v) (G, k)).1) → ∀ (H : Heap) (locs : List Loc), Hp g (sA S 11 G) s H locs → ∀ ls : Array Slot, lv_has ls 4 [(0, .ref (g.1 8)), (1, .int (iI ((k : Nat) : Int))), (2, .int (iI v))] → W p l e { frames := 1, cells := 0, slots := 0, locals := 25 } s m args below meth c H locs 0 0 (MQ below (RetG g none (gvS S)) args s 0 0 (oA g)) (F0 m 13 ls []) := by
    refine lpN (fun μ13 ih13 => ?_)
    intro k v G hμ13 hk hv hG hR H locs hH ls hl
    have L19 : ∀ (μ : Nat) (k : Nat) (f : Int) (G : Int → Int), (8 - f).toNat = μ → (k < 1024) → (1 ≤ v ∧ v ≤ 6) → (0 ≤ f ∧ f ≤ 8) → (∀ j : Int, 0 ≤ j → j < 8 → -1 ≤ G j ∧ G j < 10) → (nmI (S 10) (S 11) = (lpF (gnB (S 10) 8) (v - 1).toNat (7 - v) (lpF (gnA (S 10) v) (8 - f).toNat f (G, k))).1) → ∀ (H : Heap) (locs : List Loc), Hp g (sA S 11 G) s H locs → ∀ ls : Array Slot, lv_has ls 4 [(0, .ref (g.1 8)), (1, .int (iI ((k : Nat) : Int))), (2, .int (iI v)), (3, .int (iI f))] → W p l e { frames := 1, cells := 0, slots := 0, locals := 25 } s m args below meth c H locs 0 0 (MQ below (RetG g none (gvS S)) args s 0 0 (oA g)) (F0 m 19 ls []) := by
      refine lpN (fun μ19 ih19 => ?_)
      intro k f G hμ19 hk hv2 hf hG hR H locs hH ls hl
      refine lv_iload_n zx zb dX1_giveNames_19 rfl (lv_at hl 3 rfl) ?_
      refine bi_bip (n := 8) zx zb dX1_giveNames_20 (by decide) ?_
      refine bq_ge (tgt := 41) zx zb dX1_giveNames_22 (by decide) ⟨by omega, by omega⟩ ⟨by omega, by omega⟩ (fun zq22 => ?_) (fun zq22 => ?_)
      · refine bi_inc (k0 := 2) (n := (-1)) (lv' := [(2, .int (iI (v + (-1)))), (0, .ref (g.1 8)), (1, .int (iI ((k : Nat) : Int))), (3, .int (iI f))]) zx zb dX1_giveNames_41 hl rfl (by decide) rfl (fun ls hl => ?_)
        refine lv_goto (tgt := 13) zx zb dX1_giveNames_44 (by decide) ?_
        exact ih13 ((v + (-1)).toNat) (by omega) k (v + (-1)) G rfl (by omega) (by omega) (by exact hG) (by rw [hR, lpF_e2 (f := gnA (S 10) v) (n := 8) (i := f) zq22, show v + -1 = v - 1 by omega, show 6 - (v - 1) = 7 - v by omega]) _ _ hH ls (lv_sub hl [1, 2, 0] rfl)
      · refine lv_iload_n zx zb dX1_giveNames_25 rfl (lv_at hl 1 rfl) ?_
        refine lv_aload_n zx zb dX1_giveNames_26 rfl (lv_at hl 0 rfl) ?_
        refine lv_iload_n zx zb dX1_giveNames_27 rfl (lv_at hl 3 rfl) ?_
        refine lv_iload_n zx zb dX1_giveNames_28 rfl (lv_at hl 2 rfl) ?_
        refine lv_iload_n zx zb dX1_giveNames_29 rfl (lv_at hl 1 rfl) ?_
        refine cvI (rest := [.int (iI ((k : Nat) : Int))]) (As := [.int (iI f), .int (iI v), .int (iI ((k : Nat) : Int))]) (b := g.1 8) C0 hH (c_X1_giveName l g (sA S 11 G) k f v (by omega) (by omega) (by omega) (fun j h1 h2 => by rw [sA_n (by decide)]; exact hT j h1 h2) (fun j h1 h2 => by rw [sA_s]; exact hG j h1 h2)) kw_X1_34 ky_X1_giveName ⟨Nat.le_of_ble_eq_true rfl, Nat.le_of_ble_eq_true rfl⟩ ⟨Nat.zero_le _, Nat.zero_le _⟩ 8 rfl rfl rfl hl.1 rfl (Nat.le_of_ble_eq_true rfl) dX1_giveNames_30 (fun H locs hH => ?_)
        show W p l e _ s m args below meth c H _ _ _ _ (F0 m 33 ls [.int (iI ((gnR (gnI ((sA S 11 G) 11) (S 10) k f v) : Nat) : Int)), .int (iI ((k : Nat) : Int))])
        refine bi_or (a := k) (b := gnR (gnI ((sA S 11 G) 11) (S 10) k f v)) zx zb dX1_giveNames_33 ?_
        refine lv_istore_n (lv' := [(1, .int (iI ((k ||| (gnR (gnI ((sA S 11 G) 11) (S 10) k f v)) : Nat) : Int))), (0, .ref (g.1 8)), (2, .int (iI v)), (3, .int (iI f))]) zx zb dX1_giveNames_34 rfl hl (by decide) rfl (fun ls hl => ?_)
        refine bi_inc (k0 := 3) (n := 1) (lv' := [(3, .int (iI (f + 1))), (1, .int (iI ((k ||| (gnR (gnI ((sA S 11 G) 11) (S 10) k f v)) : Nat) : Int))), (0, .ref (g.1 8)), (2, .int (iI v))]) zx zb dX1_giveNames_35 hl rfl (by decide) rfl (fun ls hl => ?_)
        refine lv_goto (tgt := 19) zx zb dX1_giveNames_38 (by decide) ?_
        exact ih19 ((8 - (f + 1)).toNat) (by omega) (k ||| gnR (gnI G (S 10) k f v)) (f + 1) (gnF G f (gnI G (S 10) k f v)) rfl (by exact or_1024 hk (gnR_b _ _ _ _ _)) (by omega) (by omega) (by exact gnF_b hG) (by rw [hR, lpF_s2 zq22]; rfl) _ _ (hp_eq (by rw [sA_sA, sA_s, sA_n (by decide)]) hH) ls (lv_sub hl [2, 1, 3, 0] rfl)
    refine lv_iload_n zx zb dX1_giveNames_13 rfl (lv_at hl 2 rfl) ?_
    refine bz_le (tgt := 47) zx zb dX1_giveNames_14 (by decide) ⟨by omega, by omega⟩ (fun zq14 => ?_) (fun zq14 => ?_)
    · exact retV C0 hret hlk hH (by unfold gvS; rw [hR, show v = 0 by omega]; rfl) dX1_giveNames_47
    · refine bi_const (n := 0) zx zb dX1_giveNames_17 ?_
      refine lv_istore_n (lv' := [(3, .int (iI 0)), (0, .ref (g.1 8)), (1, .int (iI ((k : Nat) : Int))), (2, .int (iI v))]) zx zb dX1_giveNames_18 rfl hl (by decide) rfl (fun ls hl => ?_)
      exact L19 _ k 0 G rfl (by omega) (by omega) (by omega) (by exact hG) (by rw [hR, nm_in (by omega)]) _ _ hH ls (lv_sub hl [1, 2, 3, 0] rfl)
  obtain ⟨H, hHe⟩ : ∃ H : Heap, H = s.heap := ⟨_, rfl⟩
  rw [show (Hp g S s s.heap []) = Hp g S s H [] by rw [hHe]] at hH
  rw [← hHe]
  refine lv_aload_n zx zb dX1_giveNames_0 rfl (lv_at hl 0 rfl) ?_
  refine gf_X1_18 C0 hH dX1_giveNames_1 ?_
  refine bi_const (n := (-1)) zx zb dX1_giveNames_4 ?_
  refine csN (rest := []) (As := [.ref (g.1 11), .int (iI (-1))]) C0 hH (c_J7_fill_53178 l g S (-1)) kw_X1_21 ky_J7_fill_53178 ⟨Nat.le_of_ble_eq_true rfl, Nat.le_of_ble_eq_true rfl⟩ ⟨Nat.zero_le _, Nat.zero_le _⟩ rfl hl.1 rfl (Nat.le_of_ble_eq_true rfl) dX1_giveNames_5 (fun H locs hH => ?_)
  refine bi_const (n := 0) zx zb dX1_giveNames_8 ?_
  refine lv_istore_n (lv' := [(1, .int (iI 0)), (0, .ref (g.1 8))]) zx zb dX1_giveNames_9 rfl hl (by decide) rfl (fun ls hl => ?_)
  refine bi_bip (n := 6) zx zb dX1_giveNames_10 (by decide) ?_
  refine lv_istore_n (lv' := [(2, .int (iI 6)), (1, .int (iI 0)), (0, .ref (g.1 8))]) zx zb dX1_giveNames_12 rfl hl (by decide) rfl (fun ls hl => ?_)
  exact L13 _ 0 6 (fillA 8 (-1) (S 11)) rfl (by omega) (by omega) (by intro j h0 h1; unfold fillA; rw [if_pos ⟨h0, h1⟩]; omega) (by rfl) _ _ hH ls (lv_sub hl [2, 1, 0] rfl)
set_option maxRecDepth 100000 in
set_option maxHeartbeats 4000000 in
theorem c_X1_replace (l : Launch) (g : gT) (S : gSt) (v f n : Int) (hv : 0 ≤ v ∧ v < 6) (hf : 0 ≤ f ∧ f < 8) (hn : -1 ≤ n ∧ n < 10) (h9 : ∀ j : Int, 0 ≤ j → j < 48 → -1 ≤ S 9 j ∧ S 9 j < 10) (hT : ∀ j : Int, 0 ≤ j → j < 80 → -7 ≤ S 10 j ∧ S 10 j ≤ 7) : MetG l g yX1_replace cX1_replace 6 (some .int) 2 48 [.ref (g.1 8), .int (iI v), .int (iI f), .int (iI n)] S (some (.int (iI (S 9 (v * 8 + f))))) (rpS S v f n) := by
  refine bodyG (by decide +kernel) (Nat.le_of_ble_eq_true rfl) ?_
  intro p e s m args below meth c ls C0 hret hlk hl hH
  have zx := C0.1
  have zb := C0.2.1
  have hl : lv_has ls 6 [(0, .ref (g.1 8)), (1, .int (iI v)), (2, .int (iI f)), (3, .int (iI n))] := hl
  obtain ⟨H, hHe⟩ : ∃ H : Heap, H = s.heap := ⟨_, rfl⟩
  rw [show (Hp g S s s.heap []) = Hp g S s H [] by rw [hHe]] at hH
  rw [← hHe]
  refine lv_iload_n zx zb dX1_replace_0 rfl (lv_at hl 1 rfl) ?_
  refine bi_bip (n := 8) zx zb dX1_replace_1 (by decide) ?_
  refine bi_mul zx zb dX1_replace_3 ?_
  refine lv_iload_n zx zb dX1_replace_4 rfl (lv_at hl 2 rfl) ?_
  refine bi_add zx zb dX1_replace_5 ?_
  refine lv_istore (lv' := [(4, .int (iI ((v * 8) + f))), (0, .ref (g.1 8)), (1, .int (iI v)), (2, .int (iI f)), (3, .int (iI n))]) zx zb dX1_replace_6 hl (by decide) rfl (fun ls hl => ?_)
  refine lv_aload_n zx zb dX1_replace_8 rfl (lv_at hl 1 rfl) ?_
  refine gf_X1_9 C0 hH dX1_replace_9 ?_
  refine lv_iload zx zb dX1_replace_12 (lv_at hl 0 rfl) ?_
  have hb9 := h9 (v * 8 + f) (by omega) (by omega)
  refine al_9 C0 hH (by omega) (by omega) dX1_replace_14 ?_
  refine lv_istore (lv' := [(5, .int (iI (S 9 ((v * 8) + f)))), (4, .int (iI ((v * 8) + f))), (0, .ref (g.1 8)), (1, .int (iI v)), (2, .int (iI f)), (3, .int (iI n))]) zx zb dX1_replace_15 hl (by decide) rfl (fun ls hl => ?_)
  refine lv_aload_n zx zb dX1_replace_17 rfl (lv_at hl 2 rfl) ?_
  refine gf_X1_9 C0 hH dX1_replace_18 ?_
  refine lv_iload zx zb dX1_replace_21 (lv_at hl 1 rfl) ?_
  refine lv_iload_n zx zb dX1_replace_23 rfl (lv_at hl 5 rfl) ?_
  refine as_9 C0 hH (by omega) (by omega) dX1_replace_24 (fun H locs hH => ?_)
  refine lv_aload_n zx zb dX1_replace_25 rfl (lv_at hl 2 rfl) ?_
  refine lv_iload_n zx zb dX1_replace_26 rfl (lv_at hl 4 rfl) ?_
  refine lv_iload zx zb dX1_replace_27 (lv_at hl 0 rfl) ?_
  refine bi_const (n := (-1)) zx zb dX1_replace_29 ?_
  refine cvN (rest := []) (As := [.int (iI f), .int (iI (S 9 ((v * 8) + f))), .int (iI (-1))]) (b := g.1 8) C0 hH (c_X1_count l g (st S 9 ((v * 8) + f) n) f (S 9 ((v * 8) + f)) (-1) (by omega) (by omega)) kw_X1_27 ky_X1_count ⟨Nat.le_of_ble_eq_true rfl, Nat.le_of_ble_eq_true rfl⟩ ⟨Nat.zero_le _, Nat.zero_le _⟩ 8 rfl rfl rfl hl.1 rfl (Nat.le_of_ble_eq_true rfl) dX1_replace_30 (fun H locs hH => ?_)
  refine lv_aload_n zx zb dX1_replace_33 rfl (lv_at hl 2 rfl) ?_
  refine lv_iload_n zx zb dX1_replace_34 rfl (lv_at hl 4 rfl) ?_
  refine lv_iload_n zx zb dX1_replace_35 rfl (lv_at hl 5 rfl) ?_
  refine bi_const (n := 1) zx zb dX1_replace_36 ?_
  have hT1 := fun j => cnS_10 (st S 9 (v * 8 + f) n) f (S 9 (v * 8 + f)) (-1) (by omega) j 7 (fun j h0 h1 => hT j h0 h1)
  refine cvN (rest := []) (As := [.int (iI f), .int (iI n), .int (iI 1)]) (b := g.1 8) C0 hH (c_X1_count l g (cnS (st S 9 ((v * 8) + f) n) f (S 9 ((v * 8) + f)) (-1)) f n 1 (by omega) (by omega)) kw_X1_27 ky_X1_count ⟨Nat.le_of_ble_eq_true rfl, Nat.le_of_ble_eq_true rfl⟩ ⟨Nat.zero_le _, Nat.zero_le _⟩ 8 rfl rfl rfl hl.1 rfl (Nat.le_of_ble_eq_true rfl) dX1_replace_37 (fun H locs hH => ?_)
  have hT2 := fun j => cnS_10 (cnS (st S 9 (v * 8 + f) n) f (S 9 (v * 8 + f)) (-1)) f n 1 (by omega) j 8 (fun j h0 h1 => hT1 j h0 h1)
  refine lv_aload_n zx zb dX1_replace_40 rfl (lv_at hl 2 rfl) ?_
  refine cvN (rest := []) (As := []) (b := g.1 8) C0 hH (c_X1_giveNames l g (cnS (cnS (st S 9 ((v * 8) + f) n) f (S 9 ((v * 8) + f)) (-1)) f n 1) (fun j h0 h1 => by have h2 := hT2 j h0 h1; omega)) kw_X1_31 ky_X1_giveNames ⟨Nat.le_of_ble_eq_true rfl, Nat.le_of_ble_eq_true rfl⟩ ⟨Nat.zero_le _, Nat.zero_le _⟩ 8 rfl rfl rfl hl.1 rfl (Nat.le_of_ble_eq_true rfl) dX1_replace_41 (fun H locs hH => ?_)
  refine lv_iload zx zb dX1_replace_44 (lv_at hl 0 rfl) ?_
  exact retI C0 hret hlk hH (by rfl) (rfl) dX1_replace_46
end
section
set_option maxRecDepth 100000 in
set_option maxHeartbeats 4000000 in
theorem c_X6_needStar (l : Launch) (g : gT) (S : gSt) (a : Int) (hn1 : 0 ≤ S 1 0 ∧ S 1 0 ≤ 24) (hok : 0 ≤ a ∧ a < S 1 0) : MetG l g yX6_needStar cX6_needStar 2 none 0 0 [.ref (g.1 0), .int (iI a)] S none S := by
  refine bodyG (by decide +kernel) (Nat.le_of_ble_eq_true rfl) ?_
  intro p e s m args below meth c ls C0 hret hlk hl hH
  have zx := C0.1
  have zb := C0.2.1
  have hl : lv_has ls 2 [(0, .ref (g.1 0)), (1, .int (iI a))] := hl
  obtain ⟨H, hHe⟩ : ∃ H : Heap, H = s.heap := ⟨_, rfl⟩
  rw [show (Hp g S s s.heap []) = Hp g S s H [] by rw [hHe]] at hH
  rw [← hHe]
  refine lv_iload_n zx zb dX6_needStar_0 rfl (lv_at hl 1 rfl) ?_
  refine bz_lt (tgt := 15) zx zb dX6_needStar_1 (by decide) ⟨by omega, by omega⟩ (fun zq1 => ?_) (fun zq1 => ?_)
  · exact absurd zq1 (by omega)
  · refine lv_iload_n zx zb dX6_needStar_4 rfl (lv_at hl 1 rfl) ?_
    refine lv_aload_n zx zb dX6_needStar_5 rfl (lv_at hl 0 rfl) ?_
    refine gf_X6_12 C0 hH dX6_needStar_6 ?_
    refine gf_X6_48 C0 hH dX6_needStar_9 ?_
    refine bq_lt (tgt := 25) zx zb dX6_needStar_12 (by decide) ⟨by omega, by omega⟩ ⟨by omega, by omega⟩ (fun zq12 => ?_) (fun zq12 => ?_)
    · exact retV C0 hret hlk hH (rfl) dX6_needStar_25
    · exact absurd zq12 (by omega)
set_option maxRecDepth 100000 in
set_option maxHeartbeats 4000000 in
theorem x_X6_needStar (l : Launch) (g : gT) (S : gSt) (a : Int) (hn1 : 0 ≤ S 1 0 ∧ S 1 0 ≤ 24) (hr0 : -2147483648 ≤ a ∧ a < 2147483648) (hbad : ¬(0 ≤ a ∧ a < S 1 0)) (hfl : l.stackTraces = false) : ThrG l g yX6_needStar cX6_needStar 2 none 6 85 [.ref (g.1 0), .int (iI a)] S "java/lang/IndexOutOfBoundsException" S := by
  refine bodyX (by decide +kernel) (Nat.le_of_ble_eq_true rfl) ?_
  intro p e s m args below meth c ls C0 htab hlk hl hH
  have zx := C0.1
  have zb := C0.2.1
  have hl : lv_has ls 2 [(0, .ref (g.1 0)), (1, .int (iI a))] := hl
  obtain ⟨H, hHe⟩ : ∃ H : Heap, H = s.heap := ⟨_, rfl⟩
  rw [show (Hp g S s s.heap []) = Hp g S s H [] by rw [hHe]] at hH
  rw [← hHe]
  refine lv_iload_n zx zb dX6_needStar_0 rfl (lv_at hl 1 rfl) ?_
  refine bz_lt (tgt := 15) zx zb dX6_needStar_1 (by decide) ⟨by omega, by omega⟩ (fun zq1 => ?_) (fun zq1 => ?_)
  · exact thG (text := "no such star") (names := ["java/lang/RuntimeException", "java/lang/Exception"]) hfl C0 htab hlk hH rfl (by decide +kernel) (by decide +kernel) (gm 291 (by decide +kernel) rfl) (gm 31 (by decide +kernel) rfl) (List.mem_of_getElem? (i := 300) (by decide +kernel)) (atS_IOE C0.2.2.2.2.1) gdS_IOE hl.1 dX6_needStar_15 dX6_needStar_18 dX6_needStar_19 dX6_needStar_21 dX6_needStar_24 (by decide) (Nat.le_of_ble_eq_true rfl) (by decide) (by decide)
  · refine lv_iload_n zx zb dX6_needStar_4 rfl (lv_at hl 1 rfl) ?_
    refine lv_aload_n zx zb dX6_needStar_5 rfl (lv_at hl 0 rfl) ?_
    refine gf_X6_12 C0 hH dX6_needStar_6 ?_
    refine gf_X6_48 C0 hH dX6_needStar_9 ?_
    refine bq_lt (tgt := 25) zx zb dX6_needStar_12 (by decide) ⟨by omega, by omega⟩ ⟨by omega, by omega⟩ (fun zq12 => ?_) (fun zq12 => ?_)
    · exact absurd zq12 (by omega)
    · exact thG (text := "no such star") (names := ["java/lang/RuntimeException", "java/lang/Exception"]) hfl C0 htab hlk hH rfl (by decide +kernel) (by decide +kernel) (gm 291 (by decide +kernel) rfl) (gm 31 (by decide +kernel) rfl) (List.mem_of_getElem? (i := 300) (by decide +kernel)) (atS_IOE C0.2.2.2.2.1) gdS_IOE hl.1 dX6_needStar_15 dX6_needStar_18 dX6_needStar_19 dX6_needStar_21 dX6_needStar_24 (by decide) (Nat.le_of_ble_eq_true rfl) (by decide) (by decide)
set_option maxRecDepth 100000 in
set_option maxHeartbeats 4000000 in
theorem c_X6_needFigure (l : Launch) (g : gT) (S : gSt) (a : Int) (hnf : 0 ≤ S 4 0 ∧ S 4 0 ≤ 8) (hok : 0 ≤ a ∧ a < S 4 0) : MetG l g yX6_needFigure cX6_needFigure 2 none 0 0 [.ref (g.1 0), .int (iI a)] S none S := by
  refine bodyG (by decide +kernel) (Nat.le_of_ble_eq_true rfl) ?_
  intro p e s m args below meth c ls C0 hret hlk hl hH
  have zx := C0.1
  have zb := C0.2.1
  have hl : lv_has ls 2 [(0, .ref (g.1 0)), (1, .int (iI a))] := hl
  obtain ⟨H, hHe⟩ : ∃ H : Heap, H = s.heap := ⟨_, rfl⟩
  rw [show (Hp g S s s.heap []) = Hp g S s H [] by rw [hHe]] at hH
  rw [← hHe]
  refine lv_iload_n zx zb dX6_needFigure_0 rfl (lv_at hl 1 rfl) ?_
  refine bz_lt (tgt := 15) zx zb dX6_needFigure_1 (by decide) ⟨by omega, by omega⟩ (fun zq1 => ?_) (fun zq1 => ?_)
  · exact absurd zq1 (by omega)
  · refine lv_iload_n zx zb dX6_needFigure_4 rfl (lv_at hl 1 rfl) ?_
    refine lv_aload_n zx zb dX6_needFigure_5 rfl (lv_at hl 0 rfl) ?_
    refine gf_X6_19 C0 hH dX6_needFigure_6 ?_
    refine gf_X6_86 C0 hH dX6_needFigure_9 ?_
    refine bq_lt (tgt := 25) zx zb dX6_needFigure_12 (by decide) ⟨by omega, by omega⟩ ⟨by omega, by omega⟩ (fun zq12 => ?_) (fun zq12 => ?_)
    · exact retV C0 hret hlk hH (rfl) dX6_needFigure_25
    · exact absurd zq12 (by omega)
set_option maxRecDepth 100000 in
set_option maxHeartbeats 4000000 in
theorem x_X6_needFigure (l : Launch) (g : gT) (S : gSt) (a : Int) (hnf : 0 ≤ S 4 0 ∧ S 4 0 ≤ 8) (hr0 : -2147483648 ≤ a ∧ a < 2147483648) (hbad : ¬(0 ≤ a ∧ a < S 4 0)) (hfl : l.stackTraces = false) : ThrG l g yX6_needFigure cX6_needFigure 2 none 6 85 [.ref (g.1 0), .int (iI a)] S "java/lang/IndexOutOfBoundsException" S := by
  refine bodyX (by decide +kernel) (Nat.le_of_ble_eq_true rfl) ?_
  intro p e s m args below meth c ls C0 htab hlk hl hH
  have zx := C0.1
  have zb := C0.2.1
  have hl : lv_has ls 2 [(0, .ref (g.1 0)), (1, .int (iI a))] := hl
  obtain ⟨H, hHe⟩ : ∃ H : Heap, H = s.heap := ⟨_, rfl⟩
  rw [show (Hp g S s s.heap []) = Hp g S s H [] by rw [hHe]] at hH
  rw [← hHe]
  refine lv_iload_n zx zb dX6_needFigure_0 rfl (lv_at hl 1 rfl) ?_
  refine bz_lt (tgt := 15) zx zb dX6_needFigure_1 (by decide) ⟨by omega, by omega⟩ (fun zq1 => ?_) (fun zq1 => ?_)
  · exact thG (text := "no such figure") (names := ["java/lang/RuntimeException", "java/lang/Exception"]) hfl C0 htab hlk hH rfl (by decide +kernel) (by decide +kernel) (gm 291 (by decide +kernel) rfl) (gm 31 (by decide +kernel) rfl) (List.mem_of_getElem? (i := 366) (by decide +kernel)) (atS_IOE C0.2.2.2.2.1) gdS_IOE hl.1 dX6_needFigure_15 dX6_needFigure_18 dX6_needFigure_19 dX6_needFigure_21 dX6_needFigure_24 (by decide) (Nat.le_of_ble_eq_true rfl) (by decide) (by decide)
  · refine lv_iload_n zx zb dX6_needFigure_4 rfl (lv_at hl 1 rfl) ?_
    refine lv_aload_n zx zb dX6_needFigure_5 rfl (lv_at hl 0 rfl) ?_
    refine gf_X6_19 C0 hH dX6_needFigure_6 ?_
    refine gf_X6_86 C0 hH dX6_needFigure_9 ?_
    refine bq_lt (tgt := 25) zx zb dX6_needFigure_12 (by decide) ⟨by omega, by omega⟩ ⟨by omega, by omega⟩ (fun zq12 => ?_) (fun zq12 => ?_)
    · exact absurd zq12 (by omega)
    · exact thG (text := "no such figure") (names := ["java/lang/RuntimeException", "java/lang/Exception"]) hfl C0 htab hlk hH rfl (by decide +kernel) (by decide +kernel) (gm 291 (by decide +kernel) rfl) (gm 31 (by decide +kernel) rfl) (List.mem_of_getElem? (i := 366) (by decide +kernel)) (atS_IOE C0.2.2.2.2.1) gdS_IOE hl.1 dX6_needFigure_15 dX6_needFigure_18 dX6_needFigure_19 dX6_needFigure_21 dX6_needFigure_24 (by decide) (Nat.le_of_ble_eq_true rfl) (by decide) (by decide)
set_option maxRecDepth 100000 in
set_option maxHeartbeats 4000000 in
theorem c_X6_needPlace (l : Launch) (g : gT) (S : gSt) (a u : Int) (hok : (0 ≤ a ∧ a < 360) ∧ (-90 ≤ u ∧ u ≤ 90)) : MetG l g yX6_needPlace cX6_needPlace 2 none 0 0 [.int (iI a), .int (iI u)] S none S := by
  refine bodyG (by decide +kernel) (Nat.le_of_ble_eq_true rfl) ?_
  intro p e s m args below meth c ls C0 hret hlk hl hH
  have zx := C0.1
  have zb := C0.2.1
  have hl : lv_has ls 2 [(0, .int (iI a)), (1, .int (iI u))] := hl
  obtain ⟨H, hHe⟩ : ∃ H : Heap, H = s.heap := ⟨_, rfl⟩
  rw [show (Hp g S s s.heap []) = Hp g S s H [] by rw [hHe]] at hH
  rw [← hHe]
  refine lv_iload_n zx zb dX6_needPlace_0 rfl (lv_at hl 0 rfl) ?_
  refine bz_lt (tgt := 11) zx zb dX6_needPlace_1 (by decide) ⟨by omega, by omega⟩ (fun zq1 => ?_) (fun zq1 => ?_)
  · exact absurd zq1 (by omega)
  · refine lv_iload_n zx zb dX6_needPlace_4 rfl (lv_at hl 0 rfl) ?_
    refine bi_sip (n := 360) zx zb dX6_needPlace_5 (by decide) ?_
    refine bq_lt (tgt := 21) zx zb dX6_needPlace_8 (by decide) ⟨by omega, by omega⟩ ⟨by omega, by omega⟩ (fun zq8 => ?_) (fun zq8 => ?_)
    · refine lv_iload_n zx zb dX6_needPlace_21 rfl (lv_at hl 1 rfl) ?_
      refine bi_bip (n := (-90)) zx zb dX6_needPlace_22 (by decide) ?_
      refine bq_lt (tgt := 33) zx zb dX6_needPlace_24 (by decide) ⟨by omega, by omega⟩ ⟨by omega, by omega⟩ (fun zq24 => ?_) (fun zq24 => ?_)
      · exact absurd zq24 (by omega)
      · refine lv_iload_n zx zb dX6_needPlace_27 rfl (lv_at hl 1 rfl) ?_
        refine bi_bip (n := 90) zx zb dX6_needPlace_28 (by decide) ?_
        refine bq_le (tgt := 43) zx zb dX6_needPlace_30 (by decide) ⟨by omega, by omega⟩ ⟨by omega, by omega⟩ (fun zq30 => ?_) (fun zq30 => ?_)
        · exact retV C0 hret hlk hH (rfl) dX6_needPlace_43
        · exact absurd zq30 (by omega)
    · exact absurd zq8 (by omega)
set_option maxRecDepth 100000 in
set_option maxHeartbeats 4000000 in
theorem x_X6_needPlace (l : Launch) (g : gT) (S : gSt) (a u : Int) (hr0 : -2147483648 ≤ a ∧ a < 2147483648) (hr1 : -2147483648 ≤ u ∧ u < 2147483648) (hbad : ¬((0 ≤ a ∧ a < 360) ∧ (-90 ≤ u ∧ u ≤ 90))) (hfl : l.stackTraces = false) : ThrG l g yX6_needPlace cX6_needPlace 2 none 6 85 [.int (iI a), .int (iI u)] S "java/lang/IllegalArgumentException" S := by
  refine bodyX (by decide +kernel) (Nat.le_of_ble_eq_true rfl) ?_
  intro p e s m args below meth c ls C0 htab hlk hl hH
  have zx := C0.1
  have zb := C0.2.1
  have hl : lv_has ls 2 [(0, .int (iI a)), (1, .int (iI u))] := hl
  obtain ⟨H, hHe⟩ : ∃ H : Heap, H = s.heap := ⟨_, rfl⟩
  rw [show (Hp g S s s.heap []) = Hp g S s H [] by rw [hHe]] at hH
  rw [← hHe]
  refine lv_iload_n zx zb dX6_needPlace_0 rfl (lv_at hl 0 rfl) ?_
  refine bz_lt (tgt := 11) zx zb dX6_needPlace_1 (by decide) ⟨by omega, by omega⟩ (fun zq1 => ?_) (fun zq1 => ?_)
  · exact thG (text := "across is 0 to 359") (names := ["java/lang/RuntimeException", "java/lang/Exception"]) hfl C0 htab hlk hH rfl (by decide +kernel) (by decide +kernel) (gm 190 (by decide +kernel) rfl) (gm 29 (by decide +kernel) rfl) (List.mem_of_getElem? (i := 231) (by decide +kernel)) (atS_IAE C0.2.2.2.2.1) gdS_IAE hl.1 dX6_needPlace_11 dX6_needPlace_14 dX6_needPlace_15 dX6_needPlace_17 dX6_needPlace_20 (by decide) (Nat.le_of_ble_eq_true rfl) (by decide) (by decide)
  · refine lv_iload_n zx zb dX6_needPlace_4 rfl (lv_at hl 0 rfl) ?_
    refine bi_sip (n := 360) zx zb dX6_needPlace_5 (by decide) ?_
    refine bq_lt (tgt := 21) zx zb dX6_needPlace_8 (by decide) ⟨by omega, by omega⟩ ⟨by omega, by omega⟩ (fun zq8 => ?_) (fun zq8 => ?_)
    · refine lv_iload_n zx zb dX6_needPlace_21 rfl (lv_at hl 1 rfl) ?_
      refine bi_bip (n := (-90)) zx zb dX6_needPlace_22 (by decide) ?_
      refine bq_lt (tgt := 33) zx zb dX6_needPlace_24 (by decide) ⟨by omega, by omega⟩ ⟨by omega, by omega⟩ (fun zq24 => ?_) (fun zq24 => ?_)
      · exact thG (text := "up is -90 to 90") (names := ["java/lang/RuntimeException", "java/lang/Exception"]) hfl C0 htab hlk hH rfl (by decide +kernel) (by decide +kernel) (gm 190 (by decide +kernel) rfl) (gm 29 (by decide +kernel) rfl) (List.mem_of_getElem? (i := 258) (by decide +kernel)) (atS_IAE C0.2.2.2.2.1) gdS_IAE hl.1 dX6_needPlace_33 dX6_needPlace_36 dX6_needPlace_37 dX6_needPlace_39 dX6_needPlace_42 (by decide) (Nat.le_of_ble_eq_true rfl) (by decide) (by decide)
      · refine lv_iload_n zx zb dX6_needPlace_27 rfl (lv_at hl 1 rfl) ?_
        refine bi_bip (n := 90) zx zb dX6_needPlace_28 (by decide) ?_
        refine bq_le (tgt := 43) zx zb dX6_needPlace_30 (by decide) ⟨by omega, by omega⟩ ⟨by omega, by omega⟩ (fun zq30 => ?_) (fun zq30 => ?_)
        · exact absurd zq30 (by omega)
        · exact thG (text := "up is -90 to 90") (names := ["java/lang/RuntimeException", "java/lang/Exception"]) hfl C0 htab hlk hH rfl (by decide +kernel) (by decide +kernel) (gm 190 (by decide +kernel) rfl) (gm 29 (by decide +kernel) rfl) (List.mem_of_getElem? (i := 258) (by decide +kernel)) (atS_IAE C0.2.2.2.2.1) gdS_IAE hl.1 dX6_needPlace_33 dX6_needPlace_36 dX6_needPlace_37 dX6_needPlace_39 dX6_needPlace_42 (by decide) (Nat.le_of_ble_eq_true rfl) (by decide) (by decide)
    · exact thG (text := "across is 0 to 359") (names := ["java/lang/RuntimeException", "java/lang/Exception"]) hfl C0 htab hlk hH rfl (by decide +kernel) (by decide +kernel) (gm 190 (by decide +kernel) rfl) (gm 29 (by decide +kernel) rfl) (List.mem_of_getElem? (i := 231) (by decide +kernel)) (atS_IAE C0.2.2.2.2.1) gdS_IAE hl.1 dX6_needPlace_11 dX6_needPlace_14 dX6_needPlace_15 dX6_needPlace_17 dX6_needPlace_20 (by decide) (Nat.le_of_ble_eq_true rfl) (by decide) (by decide)
set_option maxRecDepth 100000 in
set_option maxHeartbeats 4000000 in
theorem c_X6_needName (l : Launch) (g : gT) (S : gSt) (a : Int) (hok : 0 ≤ a ∧ a < 10) : MetG l g yX6_needName cX6_needName 1 none 0 0 [.int (iI a)] S none S := by
  refine bodyG (by decide +kernel) (Nat.le_of_ble_eq_true rfl) ?_
  intro p e s m args below meth c ls C0 hret hlk hl hH
  have zx := C0.1
  have zb := C0.2.1
  have hl : lv_has ls 1 [(0, .int (iI a))] := hl
  obtain ⟨H, hHe⟩ : ∃ H : Heap, H = s.heap := ⟨_, rfl⟩
  rw [show (Hp g S s s.heap []) = Hp g S s H [] by rw [hHe]] at hH
  rw [← hHe]
  refine lv_iload_n zx zb dX6_needName_0 rfl (lv_at hl 0 rfl) ?_
  refine bz_lt (tgt := 10) zx zb dX6_needName_1 (by decide) ⟨by omega, by omega⟩ (fun zq1 => ?_) (fun zq1 => ?_)
  · exact absurd zq1 (by omega)
  · refine lv_iload_n zx zb dX6_needName_4 rfl (lv_at hl 0 rfl) ?_
    refine bi_bip (n := 10) zx zb dX6_needName_5 (by decide) ?_
    refine bq_lt (tgt := 20) zx zb dX6_needName_7 (by decide) ⟨by omega, by omega⟩ ⟨by omega, by omega⟩ (fun zq7 => ?_) (fun zq7 => ?_)
    · exact retV C0 hret hlk hH (rfl) dX6_needName_20
    · exact absurd zq7 (by omega)
set_option maxRecDepth 100000 in
set_option maxHeartbeats 4000000 in
theorem x_X6_needName (l : Launch) (g : gT) (S : gSt) (a : Int) (hr0 : -2147483648 ≤ a ∧ a < 2147483648) (hbad : ¬(0 ≤ a ∧ a < 10)) (hfl : l.stackTraces = false) : ThrG l g yX6_needName cX6_needName 1 none 6 85 [.int (iI a)] S "java/lang/IllegalArgumentException" S := by
  refine bodyX (by decide +kernel) (Nat.le_of_ble_eq_true rfl) ?_
  intro p e s m args below meth c ls C0 htab hlk hl hH
  have zx := C0.1
  have zb := C0.2.1
  have hl : lv_has ls 1 [(0, .int (iI a))] := hl
  obtain ⟨H, hHe⟩ : ∃ H : Heap, H = s.heap := ⟨_, rfl⟩
  rw [show (Hp g S s s.heap []) = Hp g S s H [] by rw [hHe]] at hH
  rw [← hHe]
  refine lv_iload_n zx zb dX6_needName_0 rfl (lv_at hl 0 rfl) ?_
  refine bz_lt (tgt := 10) zx zb dX6_needName_1 (by decide) ⟨by omega, by omega⟩ (fun zq1 => ?_) (fun zq1 => ?_)
  · exact thG (text := "a name is 0 to 9") (names := ["java/lang/RuntimeException", "java/lang/Exception"]) hfl C0 htab hlk hH rfl (by decide +kernel) (by decide +kernel) (gm 190 (by decide +kernel) rfl) (gm 29 (by decide +kernel) rfl) (List.mem_of_getElem? (i := 439) (by decide +kernel)) (atS_IAE C0.2.2.2.2.1) gdS_IAE hl.1 dX6_needName_10 dX6_needName_13 dX6_needName_14 dX6_needName_16 dX6_needName_19 (by decide) (Nat.le_of_ble_eq_true rfl) (by decide) (by decide)
  · refine lv_iload_n zx zb dX6_needName_4 rfl (lv_at hl 0 rfl) ?_
    refine bi_bip (n := 10) zx zb dX6_needName_5 (by decide) ?_
    refine bq_lt (tgt := 20) zx zb dX6_needName_7 (by decide) ⟨by omega, by omega⟩ ⟨by omega, by omega⟩ (fun zq7 => ?_) (fun zq7 => ?_)
    · exact absurd zq7 (by omega)
    · exact thG (text := "a name is 0 to 9") (names := ["java/lang/RuntimeException", "java/lang/Exception"]) hfl C0 htab hlk hH rfl (by decide +kernel) (by decide +kernel) (gm 190 (by decide +kernel) rfl) (gm 29 (by decide +kernel) rfl) (List.mem_of_getElem? (i := 439) (by decide +kernel)) (atS_IAE C0.2.2.2.2.1) gdS_IAE hl.1 dX6_needName_10 dX6_needName_13 dX6_needName_14 dX6_needName_16 dX6_needName_19 (by decide) (Nat.le_of_ble_eq_true rfl) (by decide) (by decide)
set_option maxRecDepth 100000 in
set_option maxHeartbeats 4000000 in
theorem c_X6_needLatitude (l : Launch) (g : gT) (S : gSt) (a : Int) (hok : -90 ≤ a ∧ a ≤ 90) : MetG l g yX6_needLatitude cX6_needLatitude 1 none 0 0 [.int (iI a)] S none S := by
  refine bodyG (by decide +kernel) (Nat.le_of_ble_eq_true rfl) ?_
  intro p e s m args below meth c ls C0 hret hlk hl hH
  have zx := C0.1
  have zb := C0.2.1
  have hl : lv_has ls 1 [(0, .int (iI a))] := hl
  obtain ⟨H, hHe⟩ : ∃ H : Heap, H = s.heap := ⟨_, rfl⟩
  rw [show (Hp g S s s.heap []) = Hp g S s H [] by rw [hHe]] at hH
  rw [← hHe]
  refine lv_iload_n zx zb dX6_needLatitude_0 rfl (lv_at hl 0 rfl) ?_
  refine bi_bip (n := (-90)) zx zb dX6_needLatitude_1 (by decide) ?_
  refine bq_lt (tgt := 12) zx zb dX6_needLatitude_3 (by decide) ⟨by omega, by omega⟩ ⟨by omega, by omega⟩ (fun zq3 => ?_) (fun zq3 => ?_)
  · exact absurd zq3 (by omega)
  · refine lv_iload_n zx zb dX6_needLatitude_6 rfl (lv_at hl 0 rfl) ?_
    refine bi_bip (n := 90) zx zb dX6_needLatitude_7 (by decide) ?_
    refine bq_le (tgt := 22) zx zb dX6_needLatitude_9 (by decide) ⟨by omega, by omega⟩ ⟨by omega, by omega⟩ (fun zq9 => ?_) (fun zq9 => ?_)
    · exact retV C0 hret hlk hH (rfl) dX6_needLatitude_22
    · exact absurd zq9 (by omega)
set_option maxRecDepth 100000 in
set_option maxHeartbeats 4000000 in
theorem x_X6_needLatitude (l : Launch) (g : gT) (S : gSt) (a : Int) (hr0 : -2147483648 ≤ a ∧ a < 2147483648) (hbad : ¬(-90 ≤ a ∧ a ≤ 90)) (hfl : l.stackTraces = false) : ThrG l g yX6_needLatitude cX6_needLatitude 1 none 6 85 [.int (iI a)] S "java/lang/IllegalArgumentException" S := by
  refine bodyX (by decide +kernel) (Nat.le_of_ble_eq_true rfl) ?_
  intro p e s m args below meth c ls C0 htab hlk hl hH
  have zx := C0.1
  have zb := C0.2.1
  have hl : lv_has ls 1 [(0, .int (iI a))] := hl
  obtain ⟨H, hHe⟩ : ∃ H : Heap, H = s.heap := ⟨_, rfl⟩
  rw [show (Hp g S s s.heap []) = Hp g S s H [] by rw [hHe]] at hH
  rw [← hHe]
  refine lv_iload_n zx zb dX6_needLatitude_0 rfl (lv_at hl 0 rfl) ?_
  refine bi_bip (n := (-90)) zx zb dX6_needLatitude_1 (by decide) ?_
  refine bq_lt (tgt := 12) zx zb dX6_needLatitude_3 (by decide) ⟨by omega, by omega⟩ ⟨by omega, by omega⟩ (fun zq3 => ?_) (fun zq3 => ?_)
  · exact thG (text := "a latitude is -90 to 90") (names := ["java/lang/RuntimeException", "java/lang/Exception"]) hfl C0 htab hlk hH rfl (by decide +kernel) (by decide +kernel) (gm 190 (by decide +kernel) rfl) (gm 29 (by decide +kernel) rfl) (List.mem_of_getElem? (i := 471) (by decide +kernel)) (atS_IAE C0.2.2.2.2.1) gdS_IAE hl.1 dX6_needLatitude_12 dX6_needLatitude_15 dX6_needLatitude_16 dX6_needLatitude_18 dX6_needLatitude_21 (by decide) (Nat.le_of_ble_eq_true rfl) (by decide) (by decide)
  · refine lv_iload_n zx zb dX6_needLatitude_6 rfl (lv_at hl 0 rfl) ?_
    refine bi_bip (n := 90) zx zb dX6_needLatitude_7 (by decide) ?_
    refine bq_le (tgt := 22) zx zb dX6_needLatitude_9 (by decide) ⟨by omega, by omega⟩ ⟨by omega, by omega⟩ (fun zq9 => ?_) (fun zq9 => ?_)
    · exact absurd zq9 (by omega)
    · exact thG (text := "a latitude is -90 to 90") (names := ["java/lang/RuntimeException", "java/lang/Exception"]) hfl C0 htab hlk hH rfl (by decide +kernel) (by decide +kernel) (gm 190 (by decide +kernel) rfl) (gm 29 (by decide +kernel) rfl) (List.mem_of_getElem? (i := 471) (by decide +kernel)) (atS_IAE C0.2.2.2.2.1) gdS_IAE hl.1 dX6_needLatitude_12 dX6_needLatitude_15 dX6_needLatitude_16 dX6_needLatitude_18 dX6_needLatitude_21 (by decide) (Nat.le_of_ble_eq_true rfl) (by decide) (by decide)
set_option maxRecDepth 100000 in
set_option maxHeartbeats 4000000 in
theorem c_X6_needDay (l : Launch) (g : gT) (S : gSt) (a : Int) (hok : 0 ≤ a ∧ a < 365) : MetG l g yX6_needDay cX6_needDay 1 none 0 0 [.int (iI a)] S none S := by
  refine bodyG (by decide +kernel) (Nat.le_of_ble_eq_true rfl) ?_
  intro p e s m args below meth c ls C0 hret hlk hl hH
  have zx := C0.1
  have zb := C0.2.1
  have hl : lv_has ls 1 [(0, .int (iI a))] := hl
  obtain ⟨H, hHe⟩ : ∃ H : Heap, H = s.heap := ⟨_, rfl⟩
  rw [show (Hp g S s s.heap []) = Hp g S s H [] by rw [hHe]] at hH
  rw [← hHe]
  refine lv_iload_n zx zb dX6_needDay_0 rfl (lv_at hl 0 rfl) ?_
  refine bz_lt (tgt := 11) zx zb dX6_needDay_1 (by decide) ⟨by omega, by omega⟩ (fun zq1 => ?_) (fun zq1 => ?_)
  · exact absurd zq1 (by omega)
  · refine lv_iload_n zx zb dX6_needDay_4 rfl (lv_at hl 0 rfl) ?_
    refine bi_sip (n := 365) zx zb dX6_needDay_5 (by decide) ?_
    refine bq_lt (tgt := 21) zx zb dX6_needDay_8 (by decide) ⟨by omega, by omega⟩ ⟨by omega, by omega⟩ (fun zq8 => ?_) (fun zq8 => ?_)
    · exact retV C0 hret hlk hH (rfl) dX6_needDay_21
    · exact absurd zq8 (by omega)
set_option maxRecDepth 100000 in
set_option maxHeartbeats 4000000 in
theorem x_X6_needDay (l : Launch) (g : gT) (S : gSt) (a : Int) (hr0 : -2147483648 ≤ a ∧ a < 2147483648) (hbad : ¬(0 ≤ a ∧ a < 365)) (hfl : l.stackTraces = false) : ThrG l g yX6_needDay cX6_needDay 1 none 6 85 [.int (iI a)] S "java/lang/IllegalArgumentException" S := by
  refine bodyX (by decide +kernel) (Nat.le_of_ble_eq_true rfl) ?_
  intro p e s m args below meth c ls C0 htab hlk hl hH
  have zx := C0.1
  have zb := C0.2.1
  have hl : lv_has ls 1 [(0, .int (iI a))] := hl
  obtain ⟨H, hHe⟩ : ∃ H : Heap, H = s.heap := ⟨_, rfl⟩
  rw [show (Hp g S s s.heap []) = Hp g S s H [] by rw [hHe]] at hH
  rw [← hHe]
  refine lv_iload_n zx zb dX6_needDay_0 rfl (lv_at hl 0 rfl) ?_
  refine bz_lt (tgt := 11) zx zb dX6_needDay_1 (by decide) ⟨by omega, by omega⟩ (fun zq1 => ?_) (fun zq1 => ?_)
  · exact thG (text := "a day is 0 to 364") (names := ["java/lang/RuntimeException", "java/lang/Exception"]) hfl C0 htab hlk hH rfl (by decide +kernel) (by decide +kernel) (gm 190 (by decide +kernel) rfl) (gm 29 (by decide +kernel) rfl) (List.mem_of_getElem? (i := 475) (by decide +kernel)) (atS_IAE C0.2.2.2.2.1) gdS_IAE hl.1 dX6_needDay_11 dX6_needDay_14 dX6_needDay_15 dX6_needDay_17 dX6_needDay_20 (by decide) (Nat.le_of_ble_eq_true rfl) (by decide) (by decide)
  · refine lv_iload_n zx zb dX6_needDay_4 rfl (lv_at hl 0 rfl) ?_
    refine bi_sip (n := 365) zx zb dX6_needDay_5 (by decide) ?_
    refine bq_lt (tgt := 21) zx zb dX6_needDay_8 (by decide) ⟨by omega, by omega⟩ ⟨by omega, by omega⟩ (fun zq8 => ?_) (fun zq8 => ?_)
    · exact absurd zq8 (by omega)
    · exact thG (text := "a day is 0 to 364") (names := ["java/lang/RuntimeException", "java/lang/Exception"]) hfl C0 htab hlk hH rfl (by decide +kernel) (by decide +kernel) (gm 190 (by decide +kernel) rfl) (gm 29 (by decide +kernel) rfl) (List.mem_of_getElem? (i := 475) (by decide +kernel)) (atS_IAE C0.2.2.2.2.1) gdS_IAE hl.1 dX6_needDay_11 dX6_needDay_14 dX6_needDay_15 dX6_needDay_17 dX6_needDay_20 (by decide) (Nat.le_of_ble_eq_true rfl) (by decide) (by decide)
set_option maxRecDepth 100000 in
set_option maxHeartbeats 4000000 in
theorem c_X6_needHour (l : Launch) (g : gT) (S : gSt) (a : Int) (hok : 0 ≤ a ∧ a < 24) : MetG l g yX6_needHour cX6_needHour 1 none 0 0 [.int (iI a)] S none S := by
  refine bodyG (by decide +kernel) (Nat.le_of_ble_eq_true rfl) ?_
  intro p e s m args below meth c ls C0 hret hlk hl hH
  have zx := C0.1
  have zb := C0.2.1
  have hl : lv_has ls 1 [(0, .int (iI a))] := hl
  obtain ⟨H, hHe⟩ : ∃ H : Heap, H = s.heap := ⟨_, rfl⟩
  rw [show (Hp g S s s.heap []) = Hp g S s H [] by rw [hHe]] at hH
  rw [← hHe]
  refine lv_iload_n zx zb dX6_needHour_0 rfl (lv_at hl 0 rfl) ?_
  refine bz_lt (tgt := 10) zx zb dX6_needHour_1 (by decide) ⟨by omega, by omega⟩ (fun zq1 => ?_) (fun zq1 => ?_)
  · exact absurd zq1 (by omega)
  · refine lv_iload_n zx zb dX6_needHour_4 rfl (lv_at hl 0 rfl) ?_
    refine bi_bip (n := 24) zx zb dX6_needHour_5 (by decide) ?_
    refine bq_lt (tgt := 20) zx zb dX6_needHour_7 (by decide) ⟨by omega, by omega⟩ ⟨by omega, by omega⟩ (fun zq7 => ?_) (fun zq7 => ?_)
    · exact retV C0 hret hlk hH (rfl) dX6_needHour_20
    · exact absurd zq7 (by omega)
set_option maxRecDepth 100000 in
set_option maxHeartbeats 4000000 in
theorem x_X6_needHour (l : Launch) (g : gT) (S : gSt) (a : Int) (hr0 : -2147483648 ≤ a ∧ a < 2147483648) (hbad : ¬(0 ≤ a ∧ a < 24)) (hfl : l.stackTraces = false) : ThrG l g yX6_needHour cX6_needHour 1 none 6 85 [.int (iI a)] S "java/lang/IllegalArgumentException" S := by
  refine bodyX (by decide +kernel) (Nat.le_of_ble_eq_true rfl) ?_
  intro p e s m args below meth c ls C0 htab hlk hl hH
  have zx := C0.1
  have zb := C0.2.1
  have hl : lv_has ls 1 [(0, .int (iI a))] := hl
  obtain ⟨H, hHe⟩ : ∃ H : Heap, H = s.heap := ⟨_, rfl⟩
  rw [show (Hp g S s s.heap []) = Hp g S s H [] by rw [hHe]] at hH
  rw [← hHe]
  refine lv_iload_n zx zb dX6_needHour_0 rfl (lv_at hl 0 rfl) ?_
  refine bz_lt (tgt := 10) zx zb dX6_needHour_1 (by decide) ⟨by omega, by omega⟩ (fun zq1 => ?_) (fun zq1 => ?_)
  · exact thG (text := "an hour is 0 to 23") (names := ["java/lang/RuntimeException", "java/lang/Exception"]) hfl C0 htab hlk hH rfl (by decide +kernel) (by decide +kernel) (gm 190 (by decide +kernel) rfl) (gm 29 (by decide +kernel) rfl) (List.mem_of_getElem? (i := 479) (by decide +kernel)) (atS_IAE C0.2.2.2.2.1) gdS_IAE hl.1 dX6_needHour_10 dX6_needHour_13 dX6_needHour_14 dX6_needHour_16 dX6_needHour_19 (by decide) (Nat.le_of_ble_eq_true rfl) (by decide) (by decide)
  · refine lv_iload_n zx zb dX6_needHour_4 rfl (lv_at hl 0 rfl) ?_
    refine bi_bip (n := 24) zx zb dX6_needHour_5 (by decide) ?_
    refine bq_lt (tgt := 20) zx zb dX6_needHour_7 (by decide) ⟨by omega, by omega⟩ ⟨by omega, by omega⟩ (fun zq7 => ?_) (fun zq7 => ?_)
    · exact absurd zq7 (by omega)
    · exact thG (text := "an hour is 0 to 23") (names := ["java/lang/RuntimeException", "java/lang/Exception"]) hfl C0 htab hlk hH rfl (by decide +kernel) (by decide +kernel) (gm 190 (by decide +kernel) rfl) (gm 29 (by decide +kernel) rfl) (List.mem_of_getElem? (i := 479) (by decide +kernel)) (atS_IAE C0.2.2.2.2.1) gdS_IAE hl.1 dX6_needHour_10 dX6_needHour_13 dX6_needHour_14 dX6_needHour_16 dX6_needHour_19 (by decide) (Nat.le_of_ble_eq_true rfl) (by decide) (by decide)
end
section
set_option maxRecDepth 100000 in
set_option maxHeartbeats 4000000 in
theorem c_X6_skyTurn (l : Launch) (g : gT) (S : gSt) (d h : Int)  : MetG l g yX6_skyTurn cX6_skyTurn 2 (some .int) 0 0 [.int (iI d), .int (iI h)] S (some (.int (iI (15 * h + d)))) S := by
  refine bodyG (by decide +kernel) (Nat.le_of_ble_eq_true rfl) ?_
  intro p e s m args below meth c ls C0 hret hlk hl hH
  have zx := C0.1
  have zb := C0.2.1
  have hl : lv_has ls 2 [(0, .int (iI d)), (1, .int (iI h))] := hl
  obtain ⟨H, hHe⟩ : ∃ H : Heap, H = s.heap := ⟨_, rfl⟩
  rw [show (Hp g S s s.heap []) = Hp g S s H [] by rw [hHe]] at hH
  rw [← hHe]
  refine bi_bip (n := 15) zx zb dX6_skyTurn_0 (by decide) ?_
  refine lv_iload_n zx zb dX6_skyTurn_2 rfl (lv_at hl 1 rfl) ?_
  refine bi_mul zx zb dX6_skyTurn_3 ?_
  refine lv_iload_n zx zb dX6_skyTurn_4 rfl (lv_at hl 0 rfl) ?_
  refine bi_add zx zb dX6_skyTurn_5 ?_
  exact retI C0 hret hlk hH (by rfl) (rfl) dX6_skyTurn_6
set_option maxRecDepth 100000 in
set_option maxHeartbeats 4000000 in
theorem c_X6_lowestHeight (l : Launch) (g : gT) (S : gSt) (f lat t : Int) (hf : 0 ≤ f ∧ f < 8) (hlat : -90 ≤ lat ∧ lat ≤ 90) (ht : 0 ≤ t ∧ t ≤ 1000) (hN : okN (S 5)) (hE : okE (S 5) (S 6)) (hO : okE (S 5) (S 7)) (hC : okC (S 2) (S 3)) : MetG l g yX6_lowestHeight cX6_lowestHeight 8 (some .int) 4 93 [.ref (g.1 0), .int (iI f), .int (iI lat), .int (iI t)] S (some (.int (iI (lwI (S 5) (S 6) (S 7) (S 2) (S 3) f lat t)))) S := by
  refine bodyG (by decide +kernel) (Nat.le_of_ble_eq_true rfl) ?_
  intro p e s m args below meth c ls C0 hret hlk hl hH
  have zx := C0.1
  have zb := C0.2.1
  have hl : lv_has ls 8 [(0, .ref (g.1 0)), (1, .int (iI f)), (2, .int (iI lat)), (3, .int (iI t))] := hl
  have L28 : ∀ (μ : Nat) (i : Int) (a : Int), (S 5 f - i).toNat = μ → (0 ≤ i ∧ i ≤ S 5 f) → (-3000 ≤ a ∧ a ≤ 3000) → (lwI (S 5) (S 6) (S 7) (S 2) (S 3) f lat t = lpF (loQ (hgA (S 2) (S 3) lat t) (S 6) (S 7)) (S 5 f - i).toNat (10 * f + i) a) → ∀ (H : Heap) (locs : List Loc), Hp g S s H locs → ∀ ls : Array Slot, lv_has ls 8 [(0, .ref (g.1 0)), (1, .int (iI f)), (2, .int (iI lat)), (3, .int (iI t)), (4, .int (iI (S 5 f))), (5, .int (iI a)), (6, .int (iI i))] → W p l e { frames := 4, cells := 0, slots := 0, locals := 93 } s m args below meth c H locs 0 0 (MQ below (RetG g (some (.int (iI (lwI (S 5) (S 6) (S 7) (S 2) (S 3) f lat t)))) S) args s 0 0 (oA g)) (F0 m 28 ls []) := by
    refine lpN (fun μ28 ih28 => ?_)
    intro i a hμ28 hi ha hR H locs hH ls hl
    have hn := hN f hf.1 hf.2
    refine lv_iload zx zb dX6_lowestHeight_28 (lv_at hl 6 rfl) ?_
    refine lv_iload zx zb dX6_lowestHeight_30 (lv_at hl 4 rfl) ?_
    refine bq_ge (tgt := 101) zx zb dX6_lowestHeight_32 (by decide) ⟨by omega, by omega⟩ ⟨by omega, by omega⟩ (fun zq32 => ?_) (fun zq32 => ?_)
    · refine lv_iload zx zb dX6_lowestHeight_101 (lv_at hl 5 rfl) ?_
      exact retI C0 hret hlk hH (by rw [hR, lpF_e2 zq32]) (rfl) dX6_lowestHeight_103
    · have he := hE f i hf.1 hf.2 (by omega) (by omega)
      have ho := hO f i hf.1 hf.2 (by omega) (by omega)
      have hb1 := hg_b lat (S 3 (S 6 (10 * f + i))) (t - S 2 (S 6 (10 * f + i)))
      have hb2 := hg_b lat (S 3 (S 7 (10 * f + i))) (t - S 2 (S 7 (10 * f + i)))
      refine lv_iload_n zx zb dX6_lowestHeight_35 rfl (lv_at hl 1 rfl) ?_
      refine lv_iload zx zb dX6_lowestHeight_36 (lv_at hl 6 rfl) ?_
      refine csI (rest := []) (As := [.int (iI f), .int (iI i)]) C0 hH (c_X5_place l g S f i) kw_X6_128 ky_X5_place ⟨Nat.le_of_ble_eq_true rfl, Nat.le_of_ble_eq_true rfl⟩ ⟨Nat.zero_le _, Nat.zero_le _⟩ rfl hl.1 rfl (Nat.le_of_ble_eq_true rfl) dX6_lowestHeight_38 (fun H locs hH => ?_)
      refine lv_istore (lv' := [(7, .int (iI (10 * f + i))), (0, .ref (g.1 0)), (1, .int (iI f)), (2, .int (iI lat)), (3, .int (iI t)), (4, .int (iI (S 5 f))), (5, .int (iI a)), (6, .int (iI i))]) zx zb dX6_lowestHeight_41 hl (by decide) rfl (fun ls hl => ?_)
      refine lv_iload zx zb dX6_lowestHeight_43 (lv_at hl 6 rfl) ?_
      refine lv_aload_n zx zb dX6_lowestHeight_45 rfl (lv_at hl 1 rfl) ?_
      refine gf_X6_12 C0 hH dX6_lowestHeight_46 ?_
      refine lv_aload_n zx zb dX6_lowestHeight_49 rfl (lv_at hl 1 rfl) ?_
      refine gf_X6_19 C0 hH dX6_lowestHeight_50 ?_
      refine gf_X6_131 C0 hH dX6_lowestHeight_53 ?_
      refine lv_iload zx zb dX6_lowestHeight_56 (lv_at hl 0 rfl) ?_
      refine al_6 C0 hH (by omega) (by omega) dX6_lowestHeight_58 ?_
      refine lv_iload_n zx zb dX6_lowestHeight_59 rfl (lv_at hl 3 rfl) ?_
      refine lv_iload_n zx zb dX6_lowestHeight_60 rfl (lv_at hl 4 rfl) ?_
      refine cvI (rest := [.int (iI a)]) (As := [.int (iI (S 6 (10 * f + i))), .int (iI lat), .int (iI t)]) (b := g.1 1) C0 hH (c_X2_heightAt l g S (S 6 (10 * f + i)) lat t (by omega) (by omega) (by omega) (hC)) kw_X6_188 ky_X2_heightAt ⟨Nat.le_of_ble_eq_true rfl, Nat.le_of_ble_eq_true rfl⟩ ⟨Nat.zero_le _, Nat.zero_le _⟩ 1 rfl rfl rfl hl.1 rfl (Nat.le_of_ble_eq_true rfl) dX6_lowestHeight_61 (fun H locs hH => ?_)
      refine csI (rest := []) (As := [.int (iI a), .int (iI (hg lat (S 3 (S 6 (10 * f + i))) (t - S 2 (S 6 (10 * f + i)))))]) C0 hH (c_J9_min_7cf53 l g S a (hg lat (S 3 (S 6 (10 * f + i))) (t - S 2 (S 6 (10 * f + i)))) (by omega) (by omega)) kw_X6_254 ky_J9_min_7cf53 ⟨Nat.le_of_ble_eq_true rfl, Nat.le_of_ble_eq_true rfl⟩ ⟨Nat.zero_le _, Nat.zero_le _⟩ rfl hl.1 rfl (Nat.le_of_ble_eq_true rfl) dX6_lowestHeight_64 (fun H locs hH => ?_)
      refine lv_istore (lv' := [(5, .int (iI (min a (hg lat (S 3 (S 6 (10 * f + i))) (t - S 2 (S 6 (10 * f + i))))))), (7, .int (iI (10 * f + i))), (0, .ref (g.1 0)), (1, .int (iI f)), (2, .int (iI lat)), (3, .int (iI t)), (4, .int (iI (S 5 f))), (6, .int (iI i))]) zx zb dX6_lowestHeight_67 hl (by decide) rfl (fun ls hl => ?_)
      refine lv_iload zx zb dX6_lowestHeight_69 (lv_at hl 0 rfl) ?_
      refine lv_aload_n zx zb dX6_lowestHeight_71 rfl (lv_at hl 2 rfl) ?_
      refine gf_X6_12 C0 hH dX6_lowestHeight_72 ?_
      refine lv_aload_n zx zb dX6_lowestHeight_75 rfl (lv_at hl 2 rfl) ?_
      refine gf_X6_19 C0 hH dX6_lowestHeight_76 ?_
      refine gf_X6_134 C0 hH dX6_lowestHeight_79 ?_
      refine lv_iload zx zb dX6_lowestHeight_82 (lv_at hl 1 rfl) ?_
      refine al_7 C0 hH (by omega) (by omega) dX6_lowestHeight_84 ?_
      refine lv_iload_n zx zb dX6_lowestHeight_85 rfl (lv_at hl 4 rfl) ?_
      refine lv_iload_n zx zb dX6_lowestHeight_86 rfl (lv_at hl 5 rfl) ?_
      refine cvI (rest := [.int (iI (min a (hg lat (S 3 (S 6 (10 * f + i))) (t - S 2 (S 6 (10 * f + i))))))]) (As := [.int (iI (S 7 (10 * f + i))), .int (iI lat), .int (iI t)]) (b := g.1 1) C0 hH (c_X2_heightAt l g S (S 7 (10 * f + i)) lat t (by omega) (by omega) (by omega) (hC)) kw_X6_188 ky_X2_heightAt ⟨Nat.le_of_ble_eq_true rfl, Nat.le_of_ble_eq_true rfl⟩ ⟨Nat.zero_le _, Nat.zero_le _⟩ 1 rfl rfl rfl hl.1 rfl (Nat.le_of_ble_eq_true rfl) dX6_lowestHeight_87 (fun H locs hH => ?_)
      refine csI (rest := []) (As := [.int (iI (min a (hg lat (S 3 (S 6 (10 * f + i))) (t - S 2 (S 6 (10 * f + i)))))), .int (iI (hg lat (S 3 (S 7 (10 * f + i))) (t - S 2 (S 7 (10 * f + i)))))]) C0 hH (c_J9_min_7cf53 l g S (min a (hg lat (S 3 (S 6 (10 * f + i))) (t - S 2 (S 6 (10 * f + i))))) (hg lat (S 3 (S 7 (10 * f + i))) (t - S 2 (S 7 (10 * f + i)))) (by omega) (by omega)) kw_X6_254 ky_J9_min_7cf53 ⟨Nat.le_of_ble_eq_true rfl, Nat.le_of_ble_eq_true rfl⟩ ⟨Nat.zero_le _, Nat.zero_le _⟩ rfl hl.1 rfl (Nat.le_of_ble_eq_true rfl) dX6_lowestHeight_90 (fun H locs hH => ?_)
      refine lv_istore (lv' := [(5, .int (iI (min (min a (hg lat (S 3 (S 6 (10 * f + i))) (t - S 2 (S 6 (10 * f + i))))) (hg lat (S 3 (S 7 (10 * f + i))) (t - S 2 (S 7 (10 * f + i))))))), (7, .int (iI (10 * f + i))), (0, .ref (g.1 0)), (1, .int (iI f)), (2, .int (iI lat)), (3, .int (iI t)), (4, .int (iI (S 5 f))), (6, .int (iI i))]) zx zb dX6_lowestHeight_93 hl (by decide) rfl (fun ls hl => ?_)
      refine bi_inc (k0 := 7) (n := 1) (lv' := [(6, .int (iI (i + 1))), (5, .int (iI (min (min a (hg lat (S 3 (S 6 (10 * f + i))) (t - S 2 (S 6 (10 * f + i))))) (hg lat (S 3 (S 7 (10 * f + i))) (t - S 2 (S 7 (10 * f + i))))))), (7, .int (iI (10 * f + i))), (0, .ref (g.1 0)), (1, .int (iI f)), (2, .int (iI lat)), (3, .int (iI t)), (4, .int (iI (S 5 f)))]) zx zb dX6_lowestHeight_95 hl rfl (by decide) rfl (fun ls hl => ?_)
      refine lv_goto (tgt := 28) zx zb dX6_lowestHeight_98 (by decide) ?_
      exact ih28 ((S 5 f - (i + 1)).toNat) (by omega) (i + 1) (min (min a (hg lat (S 3 (S 6 (10 * f + i))) (t - S 2 (S 6 (10 * f + i))))) (hg lat (S 3 (S 7 (10 * f + i))) (t - S 2 (S 7 (10 * f + i))))) rfl (by omega) (by omega) (by rw [hR, lpF_s2 zq32, Int.add_assoc]; rfl) _ _ hH ls (lv_sub hl [3, 4, 5, 6, 7, 1, 0] rfl)
  obtain ⟨H, hHe⟩ : ∃ H : Heap, H = s.heap := ⟨_, rfl⟩
  rw [show (Hp g S s s.heap []) = Hp g S s H [] by rw [hHe]] at hH
  rw [← hHe]
  have hn := hN f hf.1 hf.2
  refine lv_aload_n zx zb dX6_lowestHeight_0 rfl (lv_at hl 0 rfl) ?_
  refine gf_X6_19 C0 hH dX6_lowestHeight_1 ?_
  refine gf_X6_102 C0 hH dX6_lowestHeight_4 ?_
  refine lv_iload_n zx zb dX6_lowestHeight_7 rfl (lv_at hl 1 rfl) ?_
  refine al_5 C0 hH (by omega) (by omega) dX6_lowestHeight_8 ?_
  refine lv_istore (lv' := [(4, .int (iI (S 5 f))), (0, .ref (g.1 0)), (1, .int (iI f)), (2, .int (iI lat)), (3, .int (iI t))]) zx zb dX6_lowestHeight_9 hl (by decide) rfl (fun ls hl => ?_)
  refine lv_iload zx zb dX6_lowestHeight_11 (lv_at hl 0 rfl) ?_
  refine bz_ne (tgt := 20) zx zb dX6_lowestHeight_13 (by decide) ⟨by omega, by omega⟩ (fun zq13 => ?_) (fun zq13 => ?_)
  · refine bi_sip (n := 1000) zx zb dX6_lowestHeight_20 (by decide) ?_
    refine lv_istore (lv' := [(5, .int (iI 1000)), (4, .int (iI (S 5 f))), (0, .ref (g.1 0)), (1, .int (iI f)), (2, .int (iI lat)), (3, .int (iI t))]) zx zb dX6_lowestHeight_23 hl (by decide) rfl (fun ls hl => ?_)
    refine bi_const (n := 0) zx zb dX6_lowestHeight_25 ?_
    refine lv_istore (lv' := [(6, .int (iI 0)), (5, .int (iI 1000)), (4, .int (iI (S 5 f))), (0, .ref (g.1 0)), (1, .int (iI f)), (2, .int (iI lat)), (3, .int (iI t))]) zx zb dX6_lowestHeight_26 hl (by decide) rfl (fun ls hl => ?_)
    exact L28 _ 0 1000 rfl (by omega) (by omega) (by unfold lwI; first | (rw [if_pos zq13, Int.sub_zero, Int.add_zero]; done) | (rw [if_neg zq13, Int.sub_zero, Int.add_zero]; done)) _ _ hH ls (lv_sub hl [3, 4, 5, 6, 2, 1, 0] rfl)
  · refine bi_const (n := 0) zx zb dX6_lowestHeight_16 ?_
    refine lv_goto (tgt := 23) zx zb dX6_lowestHeight_17 (by decide) ?_
    refine lv_istore (lv' := [(5, .int (iI 0)), (4, .int (iI (S 5 f))), (0, .ref (g.1 0)), (1, .int (iI f)), (2, .int (iI lat)), (3, .int (iI t))]) zx zb dX6_lowestHeight_23 hl (by decide) rfl (fun ls hl => ?_)
    refine bi_const (n := 0) zx zb dX6_lowestHeight_25 ?_
    refine lv_istore (lv' := [(6, .int (iI 0)), (5, .int (iI 0)), (4, .int (iI (S 5 f))), (0, .ref (g.1 0)), (1, .int (iI f)), (2, .int (iI lat)), (3, .int (iI t))]) zx zb dX6_lowestHeight_26 hl (by decide) rfl (fun ls hl => ?_)
    exact L28 _ 0 0 rfl (by omega) (by omega) (by unfold lwI; first | (rw [if_pos zq13, Int.sub_zero, Int.add_zero]; done) | (rw [if_neg zq13, Int.sub_zero, Int.add_zero]; done)) _ _ hH ls (lv_sub hl [3, 4, 5, 6, 2, 1, 0] rfl)
set_option maxRecDepth 100000 in
set_option maxHeartbeats 4000000 in
theorem c_X6_figureIsUp (l : Launch) (g : gT) (S : gSt) (f lat t : Int) (hf : 0 ≤ f ∧ f < 8) (hlat : -90 ≤ lat ∧ lat ≤ 90) (ht : 0 ≤ t ∧ t ≤ 1000) (hN : okN (S 5)) (hE : okE (S 5) (S 6)) (hO : okE (S 5) (S 7)) (hC : okC (S 2) (S 3)) : MetG l g yX6_figureIsUp cX6_figureIsUp 4 (some .boolean) 5 120 [.ref (g.1 0), .int (iI f), .int (iI lat), .int (iI t)] S (some (.int (iI (if upB (S 5) (S 6) (S 7) (S 2) (S 3) f lat t = true then 1 else 0)))) S := by
  refine bodyG (by decide +kernel) (Nat.le_of_ble_eq_true rfl) ?_
  intro p e s m args below meth c ls C0 hret hlk hl hH
  have zx := C0.1
  have zb := C0.2.1
  have hl : lv_has ls 4 [(0, .ref (g.1 0)), (1, .int (iI f)), (2, .int (iI lat)), (3, .int (iI t))] := hl
  obtain ⟨H, hHe⟩ : ∃ H : Heap, H = s.heap := ⟨_, rfl⟩
  rw [show (Hp g S s s.heap []) = Hp g S s H [] by rw [hHe]] at hH
  rw [← hHe]
  refine lv_aload_n zx zb dX6_figureIsUp_0 rfl (lv_at hl 0 rfl) ?_
  refine lv_iload_n zx zb dX6_figureIsUp_1 rfl (lv_at hl 1 rfl) ?_
  refine lv_iload_n zx zb dX6_figureIsUp_2 rfl (lv_at hl 2 rfl) ?_
  refine lv_iload_n zx zb dX6_figureIsUp_3 rfl (lv_at hl 3 rfl) ?_
  refine cvI (rest := []) (As := [.int (iI f), .int (iI lat), .int (iI t)]) (b := g.1 0) C0 hH (c_X6_lowestHeight l g S f lat t (by omega) (by omega) (by omega) (hN) (hE) (hO) (hC)) kw_X6_198 ky_X6_lowestHeight ⟨Nat.le_of_ble_eq_true rfl, Nat.le_of_ble_eq_true rfl⟩ ⟨Nat.zero_le _, Nat.zero_le _⟩ 0 rfl rfl rfl hl.1 rfl (Nat.le_of_ble_eq_true rfl) dX6_figureIsUp_4 (fun H locs hH => ?_)
  have hb := lwI_b (S 5) (S 6) (S 7) (S 2) (S 3) f lat t
  refine bz_le (tgt := 14) zx zb dX6_figureIsUp_7 (by decide) ⟨by omega, by omega⟩ (fun zq7 => ?_) (fun zq7 => ?_)
  · refine bi_const (n := 0) zx zb dX6_figureIsUp_14 ?_
    exact retZ C0 hret hlk hH (by unfold upB; first | (rw [if_pos (decide_eq_true zq7)]; done) | (rw [if_neg (by simp; omega)]; done)) (by omega) (rfl) dX6_figureIsUp_15
  · refine bi_const (n := 1) zx zb dX6_figureIsUp_10 ?_
    refine lv_goto (tgt := 15) zx zb dX6_figureIsUp_11 (by decide) ?_
    exact retZ C0 hret hlk hH (by unfold upB; first | (rw [if_pos (decide_eq_true zq7)]; done) | (rw [if_neg (by simp; omega)]; done)) (by omega) (rfl) dX6_figureIsUp_15
set_option maxRecDepth 100000 in
set_option maxHeartbeats 4000000 in
theorem c_X6_hoursOfStar (l : Launch) (g : gT) (S : gSt) (z lat d : Int) (hz : 0 ≤ z ∧ z < 24) (hlat : -90 ≤ lat ∧ lat ≤ 90) (hd : 0 ≤ d ∧ d < 365) (hC : okC (S 2) (S 3)) : MetG l g yX6_hoursOfStar cX6_hoursOfStar 6 (some .int) 4 93 [.ref (g.1 0), .int (iI z), .int (iI lat), .int (iI d)] S (some (.int (iI ((hsN (S 2) (S 3) z lat d : Nat) : Int)))) S := by
  refine bodyG (by decide +kernel) (Nat.le_of_ble_eq_true rfl) ?_
  intro p e s m args below meth c ls C0 hret hlk hl hH
  have zx := C0.1
  have zb := C0.2.1
  have hl : lv_has ls 6 [(0, .ref (g.1 0)), (1, .int (iI z)), (2, .int (iI lat)), (3, .int (iI d))] := hl
  have L6 : ∀ (μ : Nat) (i : Int) (k : Nat), (24 - i).toNat = μ → (0 ≤ i ∧ i ≤ 24) → (hsN (S 2) (S 3) z lat d = lpF (dyQ (fun h => decide (0 < hgA (S 2) (S 3) lat (15 * h + d) z))) (24 - i).toNat i k) → ∀ (H : Heap) (locs : List Loc), Hp g S s H locs → ∀ ls : Array Slot, lv_has ls 6 [(0, .ref (g.1 0)), (1, .int (iI z)), (2, .int (iI lat)), (3, .int (iI d)), (4, .int (iI ((k : Nat) : Int))), (5, .int (iI i))] → W p l e { frames := 4, cells := 0, slots := 0, locals := 93 } s m args below meth c H locs 0 0 (MQ below (RetG g (some (.int (iI ((hsN (S 2) (S 3) z lat d : Nat) : Int)))) S) args s 0 0 (oA g)) (F0 m 6 ls []) := by
    refine lpN (fun μ6 ih6 => ?_)
    intro i k hμ6 hi hR H locs hH ls hl
    refine lv_iload zx zb dX6_hoursOfStar_6 (lv_at hl 5 rfl) ?_
    refine bi_bip (n := 24) zx zb dX6_hoursOfStar_8 (by decide) ?_
    refine bq_ge (tgt := 46) zx zb dX6_hoursOfStar_10 (by decide) ⟨by omega, by omega⟩ ⟨by omega, by omega⟩ (fun zq10 => ?_) (fun zq10 => ?_)
    · refine lv_iload zx zb dX6_hoursOfStar_46 (lv_at hl 4 rfl) ?_
      exact retI C0 hret hlk hH (by rw [hR, lpF_e2 zq10]) (rfl) dX6_hoursOfStar_48
    · refine lv_aload_n zx zb dX6_hoursOfStar_13 rfl (lv_at hl 0 rfl) ?_
      refine gf_X6_12 C0 hH dX6_hoursOfStar_14 ?_
      refine lv_iload_n zx zb dX6_hoursOfStar_17 rfl (lv_at hl 1 rfl) ?_
      refine lv_iload_n zx zb dX6_hoursOfStar_18 rfl (lv_at hl 2 rfl) ?_
      refine lv_iload_n zx zb dX6_hoursOfStar_19 rfl (lv_at hl 3 rfl) ?_
      refine lv_iload zx zb dX6_hoursOfStar_20 (lv_at hl 5 rfl) ?_
      refine csI (rest := [.int (iI lat), .int (iI z), .ref (g.1 1)]) (As := [.int (iI d), .int (iI i)]) C0 hH (c_X6_skyTurn l g S d i) kw_X6_185 ky_X6_skyTurn ⟨Nat.le_of_ble_eq_true rfl, Nat.le_of_ble_eq_true rfl⟩ ⟨Nat.zero_le _, Nat.zero_le _⟩ rfl hl.1 rfl (Nat.le_of_ble_eq_true rfl) dX6_hoursOfStar_22 (fun H locs hH => ?_)
      refine cvI (rest := []) (As := [.int (iI z), .int (iI lat), .int (iI (15 * i + d))]) (b := g.1 1) C0 hH (c_X2_heightAt l g S z lat (15 * i + d) (by omega) (by omega) (by omega) (hC)) kw_X6_188 ky_X2_heightAt ⟨Nat.le_of_ble_eq_true rfl, Nat.le_of_ble_eq_true rfl⟩ ⟨Nat.zero_le _, Nat.zero_le _⟩ 1 rfl rfl rfl hl.1 rfl (Nat.le_of_ble_eq_true rfl) dX6_hoursOfStar_25 (fun H locs hH => ?_)
      have hb1 := hg_b lat (S 3 z) (15 * i + d - S 2 z)
      refine bz_le (tgt := 40) zx zb dX6_hoursOfStar_28 (by decide) ⟨by omega, by omega⟩ (fun zq28 => ?_) (fun zq28 => ?_)
      · refine bi_inc (k0 := 5) (n := 1) (lv' := [(5, .int (iI (i + 1))), (0, .ref (g.1 0)), (1, .int (iI z)), (2, .int (iI lat)), (3, .int (iI d)), (4, .int (iI ((k : Nat) : Int)))]) zx zb dX6_hoursOfStar_40 hl rfl (by decide) rfl (fun ls hl => ?_)
        refine lv_goto (tgt := 6) zx zb dX6_hoursOfStar_43 (by decide) ?_
        exact ih6 ((24 - (i + 1)).toNat) (by omega) (i + 1) k rfl (by omega) (by rw [hR, lpF_s2 zq10]; unfold dyQ hgA; first | (rw [if_pos (decide_eq_true zq28)]; done) | (rw [if_neg (by simp; omega)]; done)) _ _ hH ls (lv_sub hl [1, 2, 3, 4, 5, 0] rfl)
      · refine lv_iload zx zb dX6_hoursOfStar_31 (lv_at hl 4 rfl) ?_
        refine bi_const (n := 1) zx zb dX6_hoursOfStar_33 ?_
        refine lv_iload zx zb dX6_hoursOfStar_34 (lv_at hl 5 rfl) ?_
        refine bi_shl zx zb dX6_hoursOfStar_36 (by omega) (by omega) ?_
        refine bi_or (a := k) (b := 2 ^ i.toNat) zx zb dX6_hoursOfStar_37 ?_
        refine lv_istore (lv' := [(4, .int (iI ((k ||| (2 ^ i.toNat) : Nat) : Int))), (0, .ref (g.1 0)), (1, .int (iI z)), (2, .int (iI lat)), (3, .int (iI d)), (5, .int (iI i))]) zx zb dX6_hoursOfStar_38 hl (by decide) rfl (fun ls hl => ?_)
        refine bi_inc (k0 := 5) (n := 1) (lv' := [(5, .int (iI (i + 1))), (4, .int (iI ((k ||| (2 ^ i.toNat) : Nat) : Int))), (0, .ref (g.1 0)), (1, .int (iI z)), (2, .int (iI lat)), (3, .int (iI d))]) zx zb dX6_hoursOfStar_40 hl rfl (by decide) rfl (fun ls hl => ?_)
        refine lv_goto (tgt := 6) zx zb dX6_hoursOfStar_43 (by decide) ?_
        exact ih6 ((24 - (i + 1)).toNat) (by omega) (i + 1) (k ||| (2 ^ i.toNat)) rfl (by omega) (by rw [hR, lpF_s2 zq10]; unfold dyQ hgA; first | (rw [if_pos (decide_eq_true zq28)]; done) | (rw [if_neg (by simp; omega)]; done)) _ _ hH ls (lv_sub hl [2, 3, 4, 5, 1, 0] rfl)
  obtain ⟨H, hHe⟩ : ∃ H : Heap, H = s.heap := ⟨_, rfl⟩
  rw [show (Hp g S s s.heap []) = Hp g S s H [] by rw [hHe]] at hH
  rw [← hHe]
  refine bi_const (n := 0) zx zb dX6_hoursOfStar_0 ?_
  refine lv_istore (lv' := [(4, .int (iI 0)), (0, .ref (g.1 0)), (1, .int (iI z)), (2, .int (iI lat)), (3, .int (iI d))]) zx zb dX6_hoursOfStar_1 hl (by decide) rfl (fun ls hl => ?_)
  refine bi_const (n := 0) zx zb dX6_hoursOfStar_3 ?_
  refine lv_istore (lv' := [(5, .int (iI 0)), (4, .int (iI 0)), (0, .ref (g.1 0)), (1, .int (iI z)), (2, .int (iI lat)), (3, .int (iI d))]) zx zb dX6_hoursOfStar_4 hl (by decide) rfl (fun ls hl => ?_)
  exact L6 _ 0 0 rfl (by omega) (by unfold hsN dyN; rw [Int.sub_zero]) _ _ hH ls (lv_sub hl [2, 3, 4, 5, 1, 0] rfl)
set_option maxRecDepth 100000 in
set_option maxHeartbeats 4000000 in
theorem c_X6_showIsWrong (l : Launch) (g : gT) (S : gSt) (i : Int) (hi : 0 ≤ i ∧ i < 12) (hN : okN (S 5)) (hE : okE (S 5) (S 6)) (hO : okE (S 5) (S 7)) (hC : okC (S 2) (S 3)) (hG : okG (S 11)) (hP : okP (S 13) (S 14) (S 15) (S 16)) : MetG l g yX6_showIsWrong cX6_showIsWrong 3 (some .boolean) 5 120 [.ref (g.1 0), .int (iI i)] S (some (.int (iI (if swB S i = true then 1 else 0)))) S := by
  refine bodyG (by decide +kernel) (Nat.le_of_ble_eq_true rfl) ?_
  intro p e s m args below meth c ls C0 hret hlk hl hH
  have zx := C0.1
  have zb := C0.2.1
  have hl : lv_has ls 3 [(0, .ref (g.1 0)), (1, .int (iI i))] := hl
  obtain ⟨H, hHe⟩ : ∃ H : Heap, H = s.heap := ⟨_, rfl⟩
  rw [show (Hp g S s s.heap []) = Hp g S s H [] by rw [hHe]] at hH
  rw [← hHe]
  have hp := hP i hi.1 hi.2
  have hg := hG (S 13 i) hp.1.1 hp.1.2
  refine lv_aload_n zx zb dX6_showIsWrong_0 rfl (lv_at hl 0 rfl) ?_
  refine gf_X6_33 C0 hH dX6_showIsWrong_1 ?_
  refine gf_X6_259 C0 hH dX6_showIsWrong_4 ?_
  refine lv_iload_n zx zb dX6_showIsWrong_7 rfl (lv_at hl 1 rfl) ?_
  refine al_13 C0 hH (by omega) (by omega) dX6_showIsWrong_8 ?_
  refine lv_istore_n (lv' := [(2, .int (iI (S 13 i))), (0, .ref (g.1 0)), (1, .int (iI i))]) zx zb dX6_showIsWrong_9 rfl hl (by decide) rfl (fun ls hl => ?_)
  refine lv_aload_n zx zb dX6_showIsWrong_10 rfl (lv_at hl 1 rfl) ?_
  refine gf_X6_26 C0 hH dX6_showIsWrong_11 ?_
  refine gf_X6_173 C0 hH dX6_showIsWrong_14 ?_
  refine lv_iload_n zx zb dX6_showIsWrong_17 rfl (lv_at hl 0 rfl) ?_
  refine al_11 C0 hH (by omega) (by omega) dX6_showIsWrong_18 ?_
  refine lv_aload_n zx zb dX6_showIsWrong_19 rfl (lv_at hl 1 rfl) ?_
  refine gf_X6_33 C0 hH dX6_showIsWrong_20 ?_
  refine gf_X6_262 C0 hH dX6_showIsWrong_23 ?_
  refine lv_iload_n zx zb dX6_showIsWrong_26 rfl (lv_at hl 2 rfl) ?_
  refine al_14 C0 hH (by omega) (by omega) dX6_showIsWrong_27 ?_
  refine bq_ne (tgt := 57) zx zb dX6_showIsWrong_28 (by decide) ⟨by omega, by omega⟩ ⟨by omega, by omega⟩ (fun zq28 => ?_) (fun zq28 => ?_)
  · refine bi_const (n := 1) zx zb dX6_showIsWrong_57 ?_
    refine lv_goto (tgt := 62) zx zb dX6_showIsWrong_58 (by decide) ?_
    exact retZ C0 hret hlk hH (by unfold swB upB; first | (rw [decide_eq_false zq28]; rfl) | (rw [decide_eq_true zq28, decide_eq_true zq54]; rfl) | (rw [decide_eq_true zq28, decide_eq_false (Int.not_lt.mpr zq54)]; rfl)) (by omega) (rfl) dX6_showIsWrong_62
  · refine lv_aload_n zx zb dX6_showIsWrong_31 rfl (lv_at hl 1 rfl) ?_
    refine lv_iload_n zx zb dX6_showIsWrong_32 rfl (lv_at hl 0 rfl) ?_
    refine lv_aload_n zx zb dX6_showIsWrong_33 rfl (lv_at hl 1 rfl) ?_
    refine gf_X6_33 C0 hH dX6_showIsWrong_34 ?_
    refine gf_X6_265 C0 hH dX6_showIsWrong_37 ?_
    refine lv_iload_n zx zb dX6_showIsWrong_40 rfl (lv_at hl 2 rfl) ?_
    refine al_15 C0 hH (by omega) (by omega) dX6_showIsWrong_41 ?_
    refine lv_aload_n zx zb dX6_showIsWrong_42 rfl (lv_at hl 1 rfl) ?_
    refine gf_X6_33 C0 hH dX6_showIsWrong_43 ?_
    refine gf_X6_268 C0 hH dX6_showIsWrong_46 ?_
    refine lv_iload_n zx zb dX6_showIsWrong_49 rfl (lv_at hl 2 rfl) ?_
    refine al_16 C0 hH (by omega) (by omega) dX6_showIsWrong_50 ?_
    refine cvI (rest := []) (As := [.int (iI (S 13 i)), .int (iI (S 15 i)), .int (iI (S 16 i))]) (b := g.1 0) C0 hH (c_X6_lowestHeight l g S (S 13 i) (S 15 i) (S 16 i) (by omega) (by omega) (by omega) (hN) (hE) (hO) (hC)) kw_X6_198 ky_X6_lowestHeight ⟨Nat.le_of_ble_eq_true rfl, Nat.le_of_ble_eq_true rfl⟩ ⟨Nat.zero_le _, Nat.zero_le _⟩ 0 rfl rfl rfl hl.1 rfl (Nat.le_of_ble_eq_true rfl) dX6_showIsWrong_51 (fun H locs hH => ?_)
    have hb := lwI_b (S 5) (S 6) (S 7) (S 2) (S 3) (S 13 i) (S 15 i) (S 16 i)
    refine bz_gt (tgt := 61) zx zb dX6_showIsWrong_54 (by decide) ⟨by omega, by omega⟩ (fun zq54 => ?_) (fun zq54 => ?_)
    · refine bi_const (n := 0) zx zb dX6_showIsWrong_61 ?_
      exact retZ C0 hret hlk hH (by unfold swB upB; first | (rw [decide_eq_false zq28]; rfl) | (rw [decide_eq_true zq28, decide_eq_true zq54]; rfl) | (rw [decide_eq_true zq28, decide_eq_false (Int.not_lt.mpr zq54)]; rfl)) (by omega) (rfl) dX6_showIsWrong_62
    · refine bi_const (n := 1) zx zb dX6_showIsWrong_57 ?_
      refine lv_goto (tgt := 62) zx zb dX6_showIsWrong_58 (by decide) ?_
      exact retZ C0 hret hlk hH (by unfold swB upB; first | (rw [decide_eq_false zq28]; rfl) | (rw [decide_eq_true zq28, decide_eq_true zq54]; rfl) | (rw [decide_eq_true zq28, decide_eq_false (Int.not_lt.mpr zq54)]; rfl)) (by omega) (rfl) dX6_showIsWrong_62
set_option maxRecDepth 100000 in
set_option maxHeartbeats 4000000 in
theorem c_X6_countWrongShows (l : Launch) (g : gT) (S : gSt) (hN : okN (S 5)) (hE : okE (S 5) (S 6)) (hO : okE (S 5) (S 7)) (hC : okC (S 2) (S 3)) (hG : okG (S 11)) (hP : okP (S 13) (S 14) (S 15) (S 16)) (hsc : 0 ≤ S 12 0 ∧ S 12 0 ≤ 12) : MetG l g yX6_countWrongShows cX6_countWrongShows 3 (some .int) 6 142 [.ref (g.1 0)] S (some (.int (iI (wrI S)))) S := by
  refine bodyG (by decide +kernel) (Nat.le_of_ble_eq_true rfl) ?_
  intro p e s m args below meth c ls C0 hret hlk hl hH
  have zx := C0.1
  have zb := C0.2.1
  have hl : lv_has ls 3 [(0, .ref (g.1 0))] := hl
  have L4 : ∀ (μ : Nat) (i : Int) (a : Int), (S 12 0 - i).toNat = μ → (0 ≤ i ∧ i ≤ S 12 0) → (wrI S = lpF (cnQ (swB S)) (S 12 0 - i).toNat i a) → ∀ (H : Heap) (locs : List Loc), Hp g S s H locs → ∀ ls : Array Slot, lv_has ls 3 [(0, .ref (g.1 0)), (1, .int (iI a)), (2, .int (iI i))] → W p l e { frames := 6, cells := 0, slots := 0, locals := 142 } s m args below meth c H locs 0 0 (MQ below (RetG g (some (.int (iI (wrI S)))) S) args s 0 0 (oA g)) (F0 m 4 ls []) := by
    refine lpN (fun μ4 ih4 => ?_)
    intro i a hμ4 hi hR H locs hH ls hl
    refine lv_iload_n zx zb dX6_countWrongShows_4 rfl (lv_at hl 2 rfl) ?_
    refine lv_aload_n zx zb dX6_countWrongShows_5 rfl (lv_at hl 0 rfl) ?_
    refine gf_X6_33 C0 hH dX6_countWrongShows_6 ?_
    refine gf_X6_205 C0 hH dX6_countWrongShows_9 ?_
    refine bq_ge (tgt := 32) zx zb dX6_countWrongShows_12 (by decide) ⟨by omega, by omega⟩ ⟨by omega, by omega⟩ (fun zq12 => ?_) (fun zq12 => ?_)
    · refine lv_iload_n zx zb dX6_countWrongShows_32 rfl (lv_at hl 1 rfl) ?_
      exact retI C0 hret hlk hH (by rw [hR, lpF_e2 zq12]) (rfl) dX6_countWrongShows_33
    · refine lv_aload_n zx zb dX6_countWrongShows_15 rfl (lv_at hl 0 rfl) ?_
      refine lv_iload_n zx zb dX6_countWrongShows_16 rfl (lv_at hl 2 rfl) ?_
      refine cvI (rest := []) (As := [.int (iI i)]) (b := g.1 0) C0 hH (c_X6_showIsWrong l g S i (by omega) (hN) (hE) (hO) (hC) (hG) (hP)) kw_X6_215 ky_X6_showIsWrong ⟨Nat.le_of_ble_eq_true rfl, Nat.le_of_ble_eq_true rfl⟩ ⟨Nat.zero_le _, Nat.zero_le _⟩ 0 rfl rfl rfl hl.1 rfl (Nat.le_of_ble_eq_true rfl) dX6_countWrongShows_17 (fun H locs hH => ?_)
      have hb20 := brg (swB S i)
      refine bz_eq (tgt := 26) zx zb dX6_countWrongShows_20 (by decide) ⟨by omega, by omega⟩ (fun zq20 => ?_) (fun zq20 => ?_)
      · refine bi_inc (k0 := 2) (n := 1) (lv' := [(2, .int (iI (i + 1))), (0, .ref (g.1 0)), (1, .int (iI a))]) zx zb dX6_countWrongShows_26 hl rfl (by decide) rfl (fun ls hl => ?_)
        refine lv_goto (tgt := 4) zx zb dX6_countWrongShows_29 (by decide) ?_
        exact ih4 ((S 12 0 - (i + 1)).toNat) (by omega) (i + 1) a rfl (by omega) (by rw [hR, lpF_s2 zq12]; unfold cnQ; first | (rw [b0 zq20]; rfl) | (rw [b1 zq20]; rfl)) _ _ hH ls (lv_sub hl [1, 2, 0] rfl)
      · refine bi_inc (k0 := 1) (n := 1) (lv' := [(1, .int (iI (a + 1))), (0, .ref (g.1 0)), (2, .int (iI i))]) zx zb dX6_countWrongShows_23 hl rfl (by decide) rfl (fun ls hl => ?_)
        refine bi_inc (k0 := 2) (n := 1) (lv' := [(2, .int (iI (i + 1))), (1, .int (iI (a + 1))), (0, .ref (g.1 0))]) zx zb dX6_countWrongShows_26 hl rfl (by decide) rfl (fun ls hl => ?_)
        refine lv_goto (tgt := 4) zx zb dX6_countWrongShows_29 (by decide) ?_
        exact ih4 ((S 12 0 - (i + 1)).toNat) (by omega) (i + 1) (a + 1) rfl (by omega) (by rw [hR, lpF_s2 zq12]; unfold cnQ; first | (rw [b0 zq20]; rfl) | (rw [b1 zq20]; rfl)) _ _ hH ls (lv_sub hl [2, 1, 0] rfl)
  obtain ⟨H, hHe⟩ : ∃ H : Heap, H = s.heap := ⟨_, rfl⟩
  rw [show (Hp g S s s.heap []) = Hp g S s H [] by rw [hHe]] at hH
  rw [← hHe]
  refine bi_const (n := 0) zx zb dX6_countWrongShows_0 ?_
  refine lv_istore_n (lv' := [(1, .int (iI 0)), (0, .ref (g.1 0))]) zx zb dX6_countWrongShows_1 rfl hl (by decide) rfl (fun ls hl => ?_)
  refine bi_const (n := 0) zx zb dX6_countWrongShows_2 ?_
  refine lv_istore_n (lv' := [(2, .int (iI 0)), (1, .int (iI 0)), (0, .ref (g.1 0))]) zx zb dX6_countWrongShows_3 rfl hl (by decide) rfl (fun ls hl => ?_)
  exact L4 _ 0 0 rfl (by omega) (by unfold wrI; rw [Int.sub_zero]) _ _ hH ls (lv_sub hl [2, 1, 0] rfl)
end
section
/-! ===== pairs that cross, sets of hours, the best hour, seasons ===== -/
def crN (a u e o : Int → Int) (p q : Int) : Int → Int → Int := cnQ (fun j => lcB a u e o p (q + j))
def crF (nq : Int) (a u e o : Int → Int) (f q : Int) : Int → Int → Int := fun i b => lpF (crN a u e o (10 * f + i) (10 * q)) (nq - (if f = q then i + 1 else 0)).toNat (if f = q then i + 1 else 0) b
def crI (n e o a u : Int → Int) (f q : Int) : Int := lpF (crF (n q) a u e o f q) (n f).toNat 0 0
def hbQ (n e o a u : Int → Int) (lat d : Int) : Int → Nat → Nat := fun j k => (k &&& hsN a u (e j) lat d) &&& hsN a u (o j) lat d
def hbN (n e o a u : Int → Int) (f lat d : Int) : Nat := lpF (hbQ n e o a u lat d) (n f).toNat (10 * f) (if n f = 0 then 0 else 16777215)
def bhQ (w : Int → Int) : Int → Int × Int → Int × Int := fun h q => if q.2 < w h then (h, w h) else q
def bhI (w : Int → Int) : Int := (lpF (bhQ w) (24 : Int).toNat 0 (-1, 0)).1
def seI (p : Int → Bool) : Int := lpF (cnQ p) (365 : Int).toNat 0 0
theorem cnQ_0 {p : Int → Bool} {i a : Int} (h : p i = false) : cnQ p i a = a := by unfold cnQ; rw [h]; rfl
theorem cnQ_1 {p : Int → Bool} {i a : Int} (h : p i = true) : cnQ p i a = a + 1 := by unfold cnQ; rw [h]; rfl
theorem dyQ_0 {p : Int → Bool} {i : Int} {a : Nat} (h : p i = false) : dyQ p i a = a := by unfold dyQ; rw [h]; rfl
theorem dyQ_1 {p : Int → Bool} {i : Int} {a : Nat} (h : p i = true) : dyQ p i a = a ||| 2 ^ i.toNat := by unfold dyQ; rw [h]; rfl
theorem okC_mv {a u : Int → Int} {z x y : Int} (h : okC a u) (hx : 0 ≤ x ∧ x < 360) (hy : -90 ≤ y ∧ y ≤ 90) : okC (ud a z x) (ud u z y) := by
  intro i h0 h1
  have := h i h0 h1
  unfold ud
  split <;> omega
theorem p0 {p : Prop} [Decidable p] (h : (if p then (1 : Int) else 0) = 0) : ¬ p := by
  intro hp
  rw [if_pos hp] at h
  exact absurd h (by decide)
end
section
set_option maxRecDepth 100000 in
set_option maxHeartbeats 4000000 in
theorem c_X6_linesCross (l : Launch) (g : gT) (S : gSt) (p1 p2 : Int) (hp : 0 ≤ p1 ∧ p1 < 80) (hq : 0 ≤ p2 ∧ p2 < 80) (he1 : 0 ≤ S 6 p1 ∧ S 6 p1 < 24) (ho1 : 0 ≤ S 7 p1 ∧ S 7 p1 < 24) (he2 : 0 ≤ S 6 p2 ∧ S 6 p2 < 24) (ho2 : 0 ≤ S 7 p2 ∧ S 7 p2 < 24) (hC : okC (S 2) (S 3)) : MetG l g yX6_linesCross cX6_linesCross 8 (some .boolean) 4 92 [.ref (g.1 0), .int (iI p1), .int (iI p2)] S (some (.int (iI (if lcB (S 2) (S 3) (S 6) (S 7) p1 p2 = true then 1 else 0)))) S := by
  refine bodyG (by decide +kernel) (Nat.le_of_ble_eq_true rfl) ?_
  intro p e s m args below meth c ls C0 hret hlk hl hH
  have zx := C0.1
  have zb := C0.2.1
  have hl : lv_has ls 8 [(0, .ref (g.1 0)), (1, .int (iI p1)), (2, .int (iI p2))] := hl
  obtain ⟨H, hHe⟩ : ∃ H : Heap, H = s.heap := ⟨_, rfl⟩
  rw [show (Hp g S s s.heap []) = Hp g S s H [] by rw [hHe]] at hH
  rw [← hHe]
  refine lv_aload_n zx zb dX6_linesCross_0 rfl (lv_at hl 0 rfl) ?_
  refine gf_X6_19 C0 hH dX6_linesCross_1 ?_
  refine gf_X6_131 C0 hH dX6_linesCross_4 ?_
  refine lv_iload_n zx zb dX6_linesCross_7 rfl (lv_at hl 1 rfl) ?_
  refine al_6 C0 hH (by omega) (by omega) dX6_linesCross_8 ?_
  refine lv_istore_n (lv' := [(3, .int (iI (S 6 p1))), (0, .ref (g.1 0)), (1, .int (iI p1)), (2, .int (iI p2))]) zx zb dX6_linesCross_9 rfl hl (by decide) rfl (fun ls hl => ?_)
  refine lv_aload_n zx zb dX6_linesCross_10 rfl (lv_at hl 1 rfl) ?_
  refine gf_X6_19 C0 hH dX6_linesCross_11 ?_
  refine gf_X6_134 C0 hH dX6_linesCross_14 ?_
  refine lv_iload_n zx zb dX6_linesCross_17 rfl (lv_at hl 2 rfl) ?_
  refine al_7 C0 hH (by omega) (by omega) dX6_linesCross_18 ?_
  refine lv_istore (lv' := [(4, .int (iI (S 7 p1))), (3, .int (iI (S 6 p1))), (0, .ref (g.1 0)), (1, .int (iI p1)), (2, .int (iI p2))]) zx zb dX6_linesCross_19 hl (by decide) rfl (fun ls hl => ?_)
  refine lv_aload_n zx zb dX6_linesCross_21 rfl (lv_at hl 2 rfl) ?_
  refine gf_X6_19 C0 hH dX6_linesCross_22 ?_
  refine gf_X6_131 C0 hH dX6_linesCross_25 ?_
  refine lv_iload_n zx zb dX6_linesCross_28 rfl (lv_at hl 4 rfl) ?_
  refine al_6 C0 hH (by omega) (by omega) dX6_linesCross_29 ?_
  refine lv_istore (lv' := [(5, .int (iI (S 6 p2))), (4, .int (iI (S 7 p1))), (3, .int (iI (S 6 p1))), (0, .ref (g.1 0)), (1, .int (iI p1)), (2, .int (iI p2))]) zx zb dX6_linesCross_30 hl (by decide) rfl (fun ls hl => ?_)
  refine lv_aload_n zx zb dX6_linesCross_32 rfl (lv_at hl 3 rfl) ?_
  refine gf_X6_19 C0 hH dX6_linesCross_33 ?_
  refine gf_X6_134 C0 hH dX6_linesCross_36 ?_
  refine lv_iload_n zx zb dX6_linesCross_39 rfl (lv_at hl 5 rfl) ?_
  refine al_7 C0 hH (by omega) (by omega) dX6_linesCross_40 ?_
  refine lv_istore (lv' := [(6, .int (iI (S 7 p2))), (5, .int (iI (S 6 p2))), (4, .int (iI (S 7 p1))), (3, .int (iI (S 6 p1))), (0, .ref (g.1 0)), (1, .int (iI p1)), (2, .int (iI p2))]) zx zb dX6_linesCross_41 hl (by decide) rfl (fun ls hl => ?_)
  refine lv_iload_n zx zb dX6_linesCross_43 rfl (lv_at hl 3 rfl) ?_
  refine lv_iload zx zb dX6_linesCross_44 (lv_at hl 1 rfl) ?_
  refine bq_eq (tgt := 69) zx zb dX6_linesCross_46 (by decide) ⟨by omega, by omega⟩ ⟨by omega, by omega⟩ (fun zq46 => ?_) (fun zq46 => ?_)
  · refine bi_const (n := 1) zx zb dX6_linesCross_69 ?_
    refine lv_goto (tgt := 74) zx zb dX6_linesCross_70 (by decide) ?_
    refine lv_istore (lv' := [(7, .int (iI 1)), (6, .int (iI (S 7 p2))), (5, .int (iI (S 6 p2))), (4, .int (iI (S 7 p1))), (3, .int (iI (S 6 p1))), (0, .ref (g.1 0)), (1, .int (iI p1)), (2, .int (iI p2))]) zx zb dX6_linesCross_74 hl (by decide) rfl (fun ls hl => ?_)
    refine lv_iload zx zb dX6_linesCross_76 (lv_at hl 0 rfl) ?_
    refine bz_ne (tgt := 102) zx zb dX6_linesCross_78 (by decide) ⟨by omega, by omega⟩ (fun zq78 => ?_) (fun zq78 => ?_)
    · refine bi_const (n := 0) zx zb dX6_linesCross_102 ?_
      exact retZ C0 hret hlk hH (by unfold lcB; first | (rw [decide_eq_true zq46]; rfl) | (rw [decide_eq_false zq46, decide_eq_true zq52]; rfl) | (rw [decide_eq_false zq46, decide_eq_false zq52, decide_eq_true zq59]; rfl) | (rw [decide_eq_false zq46, decide_eq_false zq52, decide_eq_false zq59, decide_eq_true zq66]; rfl) | (rw [decide_eq_false zq46, decide_eq_false zq52, decide_eq_false zq59, decide_eq_false zq66, b0 zq95]; rfl) | (rw [decide_eq_false zq46, decide_eq_false zq52, decide_eq_false zq59, decide_eq_false zq66, b1 zq95]; rfl)) (by omega) (rfl) dX6_linesCross_103
    · exact absurd zq78 (by decide)
  · refine lv_iload_n zx zb dX6_linesCross_49 rfl (lv_at hl 3 rfl) ?_
    refine lv_iload zx zb dX6_linesCross_50 (lv_at hl 0 rfl) ?_
    refine bq_eq (tgt := 69) zx zb dX6_linesCross_52 (by decide) ⟨by omega, by omega⟩ ⟨by omega, by omega⟩ (fun zq52 => ?_) (fun zq52 => ?_)
    · refine bi_const (n := 1) zx zb dX6_linesCross_69 ?_
      refine lv_goto (tgt := 74) zx zb dX6_linesCross_70 (by decide) ?_
      refine lv_istore (lv' := [(7, .int (iI 1)), (6, .int (iI (S 7 p2))), (5, .int (iI (S 6 p2))), (4, .int (iI (S 7 p1))), (3, .int (iI (S 6 p1))), (0, .ref (g.1 0)), (1, .int (iI p1)), (2, .int (iI p2))]) zx zb dX6_linesCross_74 hl (by decide) rfl (fun ls hl => ?_)
      refine lv_iload zx zb dX6_linesCross_76 (lv_at hl 0 rfl) ?_
      refine bz_ne (tgt := 102) zx zb dX6_linesCross_78 (by decide) ⟨by omega, by omega⟩ (fun zq78 => ?_) (fun zq78 => ?_)
      · refine bi_const (n := 0) zx zb dX6_linesCross_102 ?_
        exact retZ C0 hret hlk hH (by unfold lcB; first | (rw [decide_eq_true zq46]; rfl) | (rw [decide_eq_false zq46, decide_eq_true zq52]; rfl) | (rw [decide_eq_false zq46, decide_eq_false zq52, decide_eq_true zq59]; rfl) | (rw [decide_eq_false zq46, decide_eq_false zq52, decide_eq_false zq59, decide_eq_true zq66]; rfl) | (rw [decide_eq_false zq46, decide_eq_false zq52, decide_eq_false zq59, decide_eq_false zq66, b0 zq95]; rfl) | (rw [decide_eq_false zq46, decide_eq_false zq52, decide_eq_false zq59, decide_eq_false zq66, b1 zq95]; rfl)) (by omega) (rfl) dX6_linesCross_103
      · exact absurd zq78 (by decide)
    · refine lv_iload zx zb dX6_linesCross_55 (lv_at hl 2 rfl) ?_
      refine lv_iload zx zb dX6_linesCross_57 (lv_at hl 1 rfl) ?_
      refine bq_eq (tgt := 69) zx zb dX6_linesCross_59 (by decide) ⟨by omega, by omega⟩ ⟨by omega, by omega⟩ (fun zq59 => ?_) (fun zq59 => ?_)
      · refine bi_const (n := 1) zx zb dX6_linesCross_69 ?_
        refine lv_goto (tgt := 74) zx zb dX6_linesCross_70 (by decide) ?_
        refine lv_istore (lv' := [(7, .int (iI 1)), (6, .int (iI (S 7 p2))), (5, .int (iI (S 6 p2))), (4, .int (iI (S 7 p1))), (3, .int (iI (S 6 p1))), (0, .ref (g.1 0)), (1, .int (iI p1)), (2, .int (iI p2))]) zx zb dX6_linesCross_74 hl (by decide) rfl (fun ls hl => ?_)
        refine lv_iload zx zb dX6_linesCross_76 (lv_at hl 0 rfl) ?_
        refine bz_ne (tgt := 102) zx zb dX6_linesCross_78 (by decide) ⟨by omega, by omega⟩ (fun zq78 => ?_) (fun zq78 => ?_)
        · refine bi_const (n := 0) zx zb dX6_linesCross_102 ?_
          exact retZ C0 hret hlk hH (by unfold lcB; first | (rw [decide_eq_true zq46]; rfl) | (rw [decide_eq_false zq46, decide_eq_true zq52]; rfl) | (rw [decide_eq_false zq46, decide_eq_false zq52, decide_eq_true zq59]; rfl) | (rw [decide_eq_false zq46, decide_eq_false zq52, decide_eq_false zq59, decide_eq_true zq66]; rfl) | (rw [decide_eq_false zq46, decide_eq_false zq52, decide_eq_false zq59, decide_eq_false zq66, b0 zq95]; rfl) | (rw [decide_eq_false zq46, decide_eq_false zq52, decide_eq_false zq59, decide_eq_false zq66, b1 zq95]; rfl)) (by omega) (rfl) dX6_linesCross_103
        · exact absurd zq78 (by decide)
      · refine lv_iload zx zb dX6_linesCross_62 (lv_at hl 2 rfl) ?_
        refine lv_iload zx zb dX6_linesCross_64 (lv_at hl 0 rfl) ?_
        refine bq_ne (tgt := 73) zx zb dX6_linesCross_66 (by decide) ⟨by omega, by omega⟩ ⟨by omega, by omega⟩ (fun zq66 => ?_) (fun zq66 => ?_)
        · refine bi_const (n := 0) zx zb dX6_linesCross_73 ?_
          refine lv_istore (lv' := [(7, .int (iI 0)), (6, .int (iI (S 7 p2))), (5, .int (iI (S 6 p2))), (4, .int (iI (S 7 p1))), (3, .int (iI (S 6 p1))), (0, .ref (g.1 0)), (1, .int (iI p1)), (2, .int (iI p2))]) zx zb dX6_linesCross_74 hl (by decide) rfl (fun ls hl => ?_)
          refine lv_iload zx zb dX6_linesCross_76 (lv_at hl 0 rfl) ?_
          refine bz_ne (tgt := 102) zx zb dX6_linesCross_78 (by decide) ⟨by omega, by omega⟩ (fun zq78 => ?_) (fun zq78 => ?_)
          · exact absurd zq78 (by decide)
          · refine lv_aload_n zx zb dX6_linesCross_81 rfl (lv_at hl 5 rfl) ?_
            refine gf_X6_12 C0 hH dX6_linesCross_82 ?_
            refine lv_iload_n zx zb dX6_linesCross_85 rfl (lv_at hl 4 rfl) ?_
            refine lv_iload zx zb dX6_linesCross_86 (lv_at hl 3 rfl) ?_
            refine lv_iload zx zb dX6_linesCross_88 (lv_at hl 2 rfl) ?_
            refine lv_iload zx zb dX6_linesCross_90 (lv_at hl 1 rfl) ?_
            refine cvI (rest := []) (As := [.int (iI (S 6 p1)), .int (iI (S 7 p1)), .int (iI (S 6 p2)), .int (iI (S 7 p2))]) (b := g.1 1) C0 hH (c_X2_meet l g S (S 6 p1) (S 7 p1) (S 6 p2) (S 7 p2) (by omega) (by omega) (by omega) (by omega) (hC)) kw_X6_250 ky_X2_meet ⟨Nat.le_of_ble_eq_true rfl, Nat.le_of_ble_eq_true rfl⟩ ⟨Nat.zero_le _, Nat.zero_le _⟩ 1 rfl rfl rfl hl.1 rfl (Nat.le_of_ble_eq_true rfl) dX6_linesCross_92 (fun H locs hH => ?_)
            have hb95 := brg (meB (S 2) (S 3) (S 6 p1) (S 7 p1) (S 6 p2) (S 7 p2))
            refine bz_eq (tgt := 102) zx zb dX6_linesCross_95 (by decide) ⟨by omega, by omega⟩ (fun zq95 => ?_) (fun zq95 => ?_)
            · refine bi_const (n := 0) zx zb dX6_linesCross_102 ?_
              exact retZ C0 hret hlk hH (by unfold lcB; first | (rw [decide_eq_true zq46]; rfl) | (rw [decide_eq_false zq46, decide_eq_true zq52]; rfl) | (rw [decide_eq_false zq46, decide_eq_false zq52, decide_eq_true zq59]; rfl) | (rw [decide_eq_false zq46, decide_eq_false zq52, decide_eq_false zq59, decide_eq_true zq66]; rfl) | (rw [decide_eq_false zq46, decide_eq_false zq52, decide_eq_false zq59, decide_eq_false zq66, b0 zq95]; rfl) | (rw [decide_eq_false zq46, decide_eq_false zq52, decide_eq_false zq59, decide_eq_false zq66, b1 zq95]; rfl)) (by omega) (rfl) dX6_linesCross_103
            · refine bi_const (n := 1) zx zb dX6_linesCross_98 ?_
              refine lv_goto (tgt := 103) zx zb dX6_linesCross_99 (by decide) ?_
              exact retZ C0 hret hlk hH (by unfold lcB; first | (rw [decide_eq_true zq46]; rfl) | (rw [decide_eq_false zq46, decide_eq_true zq52]; rfl) | (rw [decide_eq_false zq46, decide_eq_false zq52, decide_eq_true zq59]; rfl) | (rw [decide_eq_false zq46, decide_eq_false zq52, decide_eq_false zq59, decide_eq_true zq66]; rfl) | (rw [decide_eq_false zq46, decide_eq_false zq52, decide_eq_false zq59, decide_eq_false zq66, b0 zq95]; rfl) | (rw [decide_eq_false zq46, decide_eq_false zq52, decide_eq_false zq59, decide_eq_false zq66, b1 zq95]; rfl)) (by omega) (rfl) dX6_linesCross_103
        · refine bi_const (n := 1) zx zb dX6_linesCross_69 ?_
          refine lv_goto (tgt := 74) zx zb dX6_linesCross_70 (by decide) ?_
          refine lv_istore (lv' := [(7, .int (iI 1)), (6, .int (iI (S 7 p2))), (5, .int (iI (S 6 p2))), (4, .int (iI (S 7 p1))), (3, .int (iI (S 6 p1))), (0, .ref (g.1 0)), (1, .int (iI p1)), (2, .int (iI p2))]) zx zb dX6_linesCross_74 hl (by decide) rfl (fun ls hl => ?_)
          refine lv_iload zx zb dX6_linesCross_76 (lv_at hl 0 rfl) ?_
          refine bz_ne (tgt := 102) zx zb dX6_linesCross_78 (by decide) ⟨by omega, by omega⟩ (fun zq78 => ?_) (fun zq78 => ?_)
          · refine bi_const (n := 0) zx zb dX6_linesCross_102 ?_
            exact retZ C0 hret hlk hH (by unfold lcB; first | (rw [decide_eq_true zq46]; rfl) | (rw [decide_eq_false zq46, decide_eq_true zq52]; rfl) | (rw [decide_eq_false zq46, decide_eq_false zq52, decide_eq_true zq59]; rfl) | (rw [decide_eq_false zq46, decide_eq_false zq52, decide_eq_false zq59, decide_eq_true zq66]; rfl) | (rw [decide_eq_false zq46, decide_eq_false zq52, decide_eq_false zq59, decide_eq_false zq66, b0 zq95]; rfl) | (rw [decide_eq_false zq46, decide_eq_false zq52, decide_eq_false zq59, decide_eq_false zq66, b1 zq95]; rfl)) (by omega) (rfl) dX6_linesCross_103
          · exact absurd zq78 (by decide)
set_option maxRecDepth 100000 in
set_option maxHeartbeats 4000000 in
theorem c_X6_stars (l : Launch) (g : gT) (S : gSt)  : MetG l g yX6_stars cX6_stars 1 (some .int) 0 0 [.ref (g.1 0)] S (some (.int (iI (S 1 0)))) S := by
  refine bodyG (by decide +kernel) (Nat.le_of_ble_eq_true rfl) ?_
  intro p e s m args below meth c ls C0 hret hlk hl hH
  have zx := C0.1
  have zb := C0.2.1
  have hl : lv_has ls 1 [(0, .ref (g.1 0))] := hl
  obtain ⟨H, hHe⟩ : ∃ H : Heap, H = s.heap := ⟨_, rfl⟩
  rw [show (Hp g S s s.heap []) = Hp g S s H [] by rw [hHe]] at hH
  rw [← hHe]
  refine lv_aload_n zx zb dX6_stars_0 rfl (lv_at hl 0 rfl) ?_
  refine gf_X6_12 C0 hH dX6_stars_1 ?_
  refine gf_X6_48 C0 hH dX6_stars_4 ?_
  exact retI C0 hret hlk hH (by rfl) (rfl) dX6_stars_7
set_option maxRecDepth 100000 in
set_option maxHeartbeats 4000000 in
theorem c_X6_figures (l : Launch) (g : gT) (S : gSt)  : MetG l g yX6_figures cX6_figures 1 (some .int) 0 0 [.ref (g.1 0)] S (some (.int (iI (S 4 0)))) S := by
  refine bodyG (by decide +kernel) (Nat.le_of_ble_eq_true rfl) ?_
  intro p e s m args below meth c ls C0 hret hlk hl hH
  have zx := C0.1
  have zb := C0.2.1
  have hl : lv_has ls 1 [(0, .ref (g.1 0))] := hl
  obtain ⟨H, hHe⟩ : ∃ H : Heap, H = s.heap := ⟨_, rfl⟩
  rw [show (Hp g S s s.heap []) = Hp g S s H [] by rw [hHe]] at hH
  rw [← hHe]
  refine lv_aload_n zx zb dX6_figures_0 rfl (lv_at hl 0 rfl) ?_
  refine gf_X6_19 C0 hH dX6_figures_1 ?_
  refine gf_X6_86 C0 hH dX6_figures_4 ?_
  exact retI C0 hret hlk hH (by rfl) (rfl) dX6_figures_7
set_option maxRecDepth 100000 in
set_option maxHeartbeats 4000000 in
theorem c_X6_lines (l : Launch) (g : gT) (S : gSt) (f : Int) (hnf : 0 ≤ S 4 0 ∧ S 4 0 ≤ 8) (hfo : 0 ≤ f ∧ f < S 4 0) : MetG l g yX6_lines cX6_lines 2 (some .int) 1 21 [.ref (g.1 0), .int (iI f)] S (some (.int (iI (S 5 f)))) S := by
  refine bodyG (by decide +kernel) (Nat.le_of_ble_eq_true rfl) ?_
  intro p e s m args below meth c ls C0 hret hlk hl hH
  have zx := C0.1
  have zb := C0.2.1
  have hl : lv_has ls 2 [(0, .ref (g.1 0)), (1, .int (iI f))] := hl
  obtain ⟨H, hHe⟩ : ∃ H : Heap, H = s.heap := ⟨_, rfl⟩
  rw [show (Hp g S s s.heap []) = Hp g S s H [] by rw [hHe]] at hH
  rw [← hHe]
  refine lv_aload_n zx zb dX6_lines_0 rfl (lv_at hl 0 rfl) ?_
  refine lv_iload_n zx zb dX6_lines_1 rfl (lv_at hl 1 rfl) ?_
  refine cvN (rest := []) (As := [.int (iI f)]) (b := g.1 0) C0 hH (c_X6_needFigure l g S f (by omega) (by omega)) kw_X6_94 ky_X6_needFigure ⟨Nat.le_of_ble_eq_true rfl, Nat.le_of_ble_eq_true rfl⟩ ⟨Nat.zero_le _, Nat.zero_le _⟩ 0 rfl rfl rfl hl.1 rfl (Nat.le_of_ble_eq_true rfl) dX6_lines_2 (fun H locs hH => ?_)
  refine lv_aload_n zx zb dX6_lines_5 rfl (lv_at hl 0 rfl) ?_
  refine gf_X6_19 C0 hH dX6_lines_6 ?_
  refine gf_X6_102 C0 hH dX6_lines_9 ?_
  refine lv_iload_n zx zb dX6_lines_12 rfl (lv_at hl 1 rfl) ?_
  refine al_5 C0 hH (by omega) (by omega) dX6_lines_13 ?_
  exact retI C0 hret hlk hH (by rfl) (rfl) dX6_lines_14
set_option maxRecDepth 100000 in
set_option maxHeartbeats 4000000 in
theorem x1_X6_lines (l : Launch) (g : gT) (S : gSt) (f : Int) (hnf : 0 ≤ S 4 0 ∧ S 4 0 ≤ 8) (hr_f : -2147483648 ≤ f ∧ f < 2147483648) (hfb : ¬(0 ≤ f ∧ f < S 4 0)) (hfl : l.stackTraces = false) : ThrG l g yX6_lines cX6_lines 2 (some .int) 7 106 [.ref (g.1 0), .int (iI f)] S "java/lang/IndexOutOfBoundsException" S := by
  refine bodyX (by decide +kernel) (Nat.le_of_ble_eq_true rfl) ?_
  intro p e s m args below meth c ls C0 htab hlk hl hH
  have zx := C0.1
  have zb := C0.2.1
  have hl : lv_has ls 2 [(0, .ref (g.1 0)), (1, .int (iI f))] := hl
  obtain ⟨H, hHe⟩ : ∃ H : Heap, H = s.heap := ⟨_, rfl⟩
  rw [show (Hp g S s s.heap []) = Hp g S s H [] by rw [hHe]] at hH
  rw [← hHe]
  refine lv_aload_n zx zb dX6_lines_0 rfl (lv_at hl 0 rfl) ?_
  refine lv_iload_n zx zb dX6_lines_1 rfl (lv_at hl 1 rfl) ?_
  exact cvX (rest := []) (As := [.int (iI f)]) (b := g.1 0) C0 htab hlk hH (x_X6_needFigure l g S f (by omega) (by omega) (by omega) hfl) kw_X6_94 ky_X6_needFigure ⟨Nat.le_of_ble_eq_true rfl, Nat.le_of_ble_eq_true rfl⟩ ⟨Nat.le_of_ble_eq_true rfl, Nat.le_of_ble_eq_true rfl⟩ 0 rfl rfl rfl hl.1 rfl (Nat.le_of_ble_eq_true rfl) dX6_lines_2
set_option maxRecDepth 100000 in
set_option maxHeartbeats 4000000 in
theorem c_X6_placeOf (l : Launch) (g : gT) (S : gSt) (z : Int) (hn1 : 0 ≤ S 1 0 ∧ S 1 0 ≤ 24) (hzo : 0 ≤ z ∧ z < S 1 0) : MetG l g yX6_placeOf cX6_placeOf 2 (some .int) 1 21 [.ref (g.1 0), .int (iI z)] S (some (.int (iI (1000 * S 2 z + S 3 z + 90)))) S := by
  refine bodyG (by decide +kernel) (Nat.le_of_ble_eq_true rfl) ?_
  intro p e s m args below meth c ls C0 hret hlk hl hH
  have zx := C0.1
  have zb := C0.2.1
  have hl : lv_has ls 2 [(0, .ref (g.1 0)), (1, .int (iI z))] := hl
  obtain ⟨H, hHe⟩ : ∃ H : Heap, H = s.heap := ⟨_, rfl⟩
  rw [show (Hp g S s s.heap []) = Hp g S s H [] by rw [hHe]] at hH
  rw [← hHe]
  refine lv_aload_n zx zb dX6_placeOf_0 rfl (lv_at hl 0 rfl) ?_
  refine lv_iload_n zx zb dX6_placeOf_1 rfl (lv_at hl 1 rfl) ?_
  refine cvN (rest := []) (As := [.int (iI z)]) (b := g.1 0) C0 hH (c_X6_needStar l g S z (by omega) (by omega)) kw_X6_63 ky_X6_needStar ⟨Nat.le_of_ble_eq_true rfl, Nat.le_of_ble_eq_true rfl⟩ ⟨Nat.zero_le _, Nat.zero_le _⟩ 0 rfl rfl rfl hl.1 rfl (Nat.le_of_ble_eq_true rfl) dX6_placeOf_2 (fun H locs hH => ?_)
  refine bi_sip (n := 1000) zx zb dX6_placeOf_5 (by decide) ?_
  refine lv_aload_n zx zb dX6_placeOf_8 rfl (lv_at hl 0 rfl) ?_
  refine gf_X6_12 C0 hH dX6_placeOf_9 ?_
  refine gf_X6_67 C0 hH dX6_placeOf_12 ?_
  refine lv_iload_n zx zb dX6_placeOf_15 rfl (lv_at hl 1 rfl) ?_
  refine al_2 C0 hH (by omega) (by omega) dX6_placeOf_16 ?_
  refine bi_mul zx zb dX6_placeOf_17 ?_
  refine lv_aload_n zx zb dX6_placeOf_18 rfl (lv_at hl 0 rfl) ?_
  refine gf_X6_12 C0 hH dX6_placeOf_19 ?_
  refine gf_X6_71 C0 hH dX6_placeOf_22 ?_
  refine lv_iload_n zx zb dX6_placeOf_25 rfl (lv_at hl 1 rfl) ?_
  refine al_3 C0 hH (by omega) (by omega) dX6_placeOf_26 ?_
  refine bi_add zx zb dX6_placeOf_27 ?_
  refine bi_bip (n := 90) zx zb dX6_placeOf_28 (by decide) ?_
  refine bi_add zx zb dX6_placeOf_30 ?_
  exact retI C0 hret hlk hH (by rfl) (rfl) dX6_placeOf_31
set_option maxRecDepth 100000 in
set_option maxHeartbeats 4000000 in
theorem x1_X6_placeOf (l : Launch) (g : gT) (S : gSt) (z : Int) (hn1 : 0 ≤ S 1 0 ∧ S 1 0 ≤ 24) (hr_z : -2147483648 ≤ z ∧ z < 2147483648) (hzb : ¬(0 ≤ z ∧ z < S 1 0)) (hfl : l.stackTraces = false) : ThrG l g yX6_placeOf cX6_placeOf 2 (some .int) 7 106 [.ref (g.1 0), .int (iI z)] S "java/lang/IndexOutOfBoundsException" S := by
  refine bodyX (by decide +kernel) (Nat.le_of_ble_eq_true rfl) ?_
  intro p e s m args below meth c ls C0 htab hlk hl hH
  have zx := C0.1
  have zb := C0.2.1
  have hl : lv_has ls 2 [(0, .ref (g.1 0)), (1, .int (iI z))] := hl
  obtain ⟨H, hHe⟩ : ∃ H : Heap, H = s.heap := ⟨_, rfl⟩
  rw [show (Hp g S s s.heap []) = Hp g S s H [] by rw [hHe]] at hH
  rw [← hHe]
  refine lv_aload_n zx zb dX6_placeOf_0 rfl (lv_at hl 0 rfl) ?_
  refine lv_iload_n zx zb dX6_placeOf_1 rfl (lv_at hl 1 rfl) ?_
  exact cvX (rest := []) (As := [.int (iI z)]) (b := g.1 0) C0 htab hlk hH (x_X6_needStar l g S z (by omega) (by omega) (by omega) hfl) kw_X6_63 ky_X6_needStar ⟨Nat.le_of_ble_eq_true rfl, Nat.le_of_ble_eq_true rfl⟩ ⟨Nat.le_of_ble_eq_true rfl, Nat.le_of_ble_eq_true rfl⟩ 0 rfl rfl rfl hl.1 rfl (Nat.le_of_ble_eq_true rfl) dX6_placeOf_2
set_option maxRecDepth 100000 in
set_option maxHeartbeats 4000000 in
theorem c_X6_figureOf (l : Launch) (g : gT) (S : gSt) (z : Int) (hn1 : 0 ≤ S 1 0 ∧ S 1 0 ≤ 24) (hzo : 0 ≤ z ∧ z < S 1 0) (hnf : 0 ≤ S 4 0 ∧ S 4 0 ≤ 8) (hN : okN (S 5)) (hE : okE (S 5) (S 6)) (hO : okE (S 5) (S 7)) : MetG l g yX6_figureOf cX6_figureOf 2 (some .int) 3 67 [.ref (g.1 0), .int (iI z)] S (some (.int (iI (owI (S 4 0) (S 5) (S 6) (S 7) z)))) S := by
  refine bodyG (by decide +kernel) (Nat.le_of_ble_eq_true rfl) ?_
  intro p e s m args below meth c ls C0 hret hlk hl hH
  have zx := C0.1
  have zb := C0.2.1
  have hl : lv_has ls 2 [(0, .ref (g.1 0)), (1, .int (iI z))] := hl
  obtain ⟨H, hHe⟩ : ∃ H : Heap, H = s.heap := ⟨_, rfl⟩
  rw [show (Hp g S s s.heap []) = Hp g S s H [] by rw [hHe]] at hH
  rw [← hHe]
  refine lv_aload_n zx zb dX6_figureOf_0 rfl (lv_at hl 0 rfl) ?_
  refine lv_iload_n zx zb dX6_figureOf_1 rfl (lv_at hl 1 rfl) ?_
  refine cvN (rest := []) (As := [.int (iI z)]) (b := g.1 0) C0 hH (c_X6_needStar l g S z (by omega) (by omega)) kw_X6_63 ky_X6_needStar ⟨Nat.le_of_ble_eq_true rfl, Nat.le_of_ble_eq_true rfl⟩ ⟨Nat.zero_le _, Nat.zero_le _⟩ 0 rfl rfl rfl hl.1 rfl (Nat.le_of_ble_eq_true rfl) dX6_figureOf_2 (fun H locs hH => ?_)
  refine lv_aload_n zx zb dX6_figureOf_5 rfl (lv_at hl 0 rfl) ?_
  refine gf_X6_19 C0 hH dX6_figureOf_6 ?_
  refine lv_iload_n zx zb dX6_figureOf_9 rfl (lv_at hl 1 rfl) ?_
  refine cvI (rest := []) (As := [.int (iI z)]) (b := g.1 4) C0 hH (c_X5_ownerOf l g S z (by omega) (by omega) (hN) (hE) (hO)) kw_X6_154 ky_X5_ownerOf ⟨Nat.le_of_ble_eq_true rfl, Nat.le_of_ble_eq_true rfl⟩ ⟨Nat.zero_le _, Nat.zero_le _⟩ 4 rfl rfl rfl hl.1 rfl (Nat.le_of_ble_eq_true rfl) dX6_figureOf_10 (fun H locs hH => ?_)
  exact retI C0 hret hlk hH (by rfl) (rfl) dX6_figureOf_13
set_option maxRecDepth 100000 in
set_option maxHeartbeats 4000000 in
theorem x1_X6_figureOf (l : Launch) (g : gT) (S : gSt) (z : Int) (hn1 : 0 ≤ S 1 0 ∧ S 1 0 ≤ 24) (hr_z : -2147483648 ≤ z ∧ z < 2147483648) (hzb : ¬(0 ≤ z ∧ z < S 1 0)) (hfl : l.stackTraces = false) : ThrG l g yX6_figureOf cX6_figureOf 2 (some .int) 7 106 [.ref (g.1 0), .int (iI z)] S "java/lang/IndexOutOfBoundsException" S := by
  refine bodyX (by decide +kernel) (Nat.le_of_ble_eq_true rfl) ?_
  intro p e s m args below meth c ls C0 htab hlk hl hH
  have zx := C0.1
  have zb := C0.2.1
  have hl : lv_has ls 2 [(0, .ref (g.1 0)), (1, .int (iI z))] := hl
  obtain ⟨H, hHe⟩ : ∃ H : Heap, H = s.heap := ⟨_, rfl⟩
  rw [show (Hp g S s s.heap []) = Hp g S s H [] by rw [hHe]] at hH
  rw [← hHe]
  refine lv_aload_n zx zb dX6_figureOf_0 rfl (lv_at hl 0 rfl) ?_
  refine lv_iload_n zx zb dX6_figureOf_1 rfl (lv_at hl 1 rfl) ?_
  exact cvX (rest := []) (As := [.int (iI z)]) (b := g.1 0) C0 htab hlk hH (x_X6_needStar l g S z (by omega) (by omega) (by omega) hfl) kw_X6_63 ky_X6_needStar ⟨Nat.le_of_ble_eq_true rfl, Nat.le_of_ble_eq_true rfl⟩ ⟨Nat.le_of_ble_eq_true rfl, Nat.le_of_ble_eq_true rfl⟩ 0 rfl rfl rfl hl.1 rfl (Nat.le_of_ble_eq_true rfl) dX6_figureOf_2
set_option maxRecDepth 100000 in
set_option maxHeartbeats 4000000 in
theorem c_X6_crossings (l : Launch) (g : gT) (S : gSt) (f q : Int) (hnf : 0 ≤ S 4 0 ∧ S 4 0 ≤ 8) (hfo : 0 ≤ f ∧ f < S 4 0) (hqo : 0 ≤ q ∧ q < S 4 0) (hN : okN (S 5)) (hE : okE (S 5) (S 6)) (hO : okE (S 5) (S 7)) (hC : okC (S 2) (S 3)) : MetG l g yX6_crossings cX6_crossings 7 (some .int) 5 119 [.ref (g.1 0), .int (iI f), .int (iI q)] S (some (.int (iI (crI (S 5) (S 6) (S 7) (S 2) (S 3) f q)))) S := by
  refine bodyG (by decide +kernel) (Nat.le_of_ble_eq_true rfl) ?_
  intro p e s m args below meth c ls C0 hret hlk hl hH
  have zx := C0.1
  have zb := C0.2.1
  have hl : lv_has ls 7 [(0, .ref (g.1 0)), (1, .int (iI f)), (2, .int (iI q))] := hl
  have L15 : ∀ (μ : Nat) (i : Int) (a : Int), (S 5 f - i).toNat = μ → (0 ≤ i ∧ i ≤ S 5 f) → (crI (S 5) (S 6) (S 7) (S 2) (S 3) f q = lpF (crF (S 5 q) (S 2) (S 3) (S 6) (S 7) f q) (S 5 f - i).toNat i a) → ∀ (H : Heap) (locs : List Loc), Hp g S s H locs → ∀ ls : Array Slot, lv_has ls 7 [(0, .ref (g.1 0)), (1, .int (iI f)), (2, .int (iI q)), (3, .int (iI a)), (4, .int (iI i))] → W p l e { frames := 5, cells := 0, slots := 0, locals := 119 } s m args below meth c H locs 0 0 (MQ below (RetG g (some (.int (iI (crI (S 5) (S 6) (S 7) (S 2) (S 3) f q)))) S) args s 0 0 (oA g)) (F0 m 15 ls []) := by
    refine lpN (fun μ15 ih15 => ?_)
    intro i a hμ15 hi hR H locs hH ls hl
    have L48 : ∀ (μ : Nat) (b : Int) (j : Int), (S 5 q - j).toNat = μ → (i < S 5 f) → (0 ≤ j ∧ j ≤ 11) → (crI (S 5) (S 6) (S 7) (S 2) (S 3) f q = lpF (crF (S 5 q) (S 2) (S 3) (S 6) (S 7) f q) (S 5 f - (i + 1)).toNat (i + 1) (lpF (crN (S 2) (S 3) (S 6) (S 7) (10 * f + i) (10 * q)) (S 5 q - j).toNat j b)) → ∀ (H : Heap) (locs : List Loc), Hp g S s H locs → ∀ ls : Array Slot, lv_has ls 7 [(0, .ref (g.1 0)), (1, .int (iI f)), (2, .int (iI q)), (3, .int (iI b)), (4, .int (iI i)), (6, .int (iI j))] → W p l e { frames := 5, cells := 0, slots := 0, locals := 119 } s m args below meth c H locs 0 0 (MQ below (RetG g (some (.int (iI (crI (S 5) (S 6) (S 7) (S 2) (S 3) f q)))) S) args s 0 0 (oA g)) (F0 m 48 ls []) := by
      refine lpN (fun μ48 ih48 => ?_)
      intro b j hμ48 hi2 hj hS H locs hH ls hl
      have hn2 := hN q (by omega) (by omega)
      refine lv_iload zx zb dX6_crossings_48 (lv_at hl 5 rfl) ?_
      refine lv_aload_n zx zb dX6_crossings_50 rfl (lv_at hl 0 rfl) ?_
      refine gf_X6_19 C0 hH dX6_crossings_51 ?_
      refine gf_X6_102 C0 hH dX6_crossings_54 ?_
      refine lv_iload_n zx zb dX6_crossings_57 rfl (lv_at hl 2 rfl) ?_
      refine al_5 C0 hH (by omega) (by omega) dX6_crossings_58 ?_
      refine bq_ge (tgt := 90) zx zb dX6_crossings_59 (by decide) ⟨by omega, by omega⟩ ⟨by omega, by omega⟩ (fun zq59 => ?_) (fun zq59 => ?_)
      · refine bi_inc (k0 := 4) (n := 1) (lv' := [(4, .int (iI (i + 1))), (0, .ref (g.1 0)), (1, .int (iI f)), (2, .int (iI q)), (3, .int (iI b)), (6, .int (iI j))]) zx zb dX6_crossings_90 hl rfl (by decide) rfl (fun ls hl => ?_)
        refine lv_goto (tgt := 15) zx zb dX6_crossings_93 (by decide) ?_
        exact ih15 ((S 5 f - (i + 1)).toNat) (by omega) (i + 1) b rfl (by omega) (by rw [hS, lpF_e (n := S 5 q) zq59]) _ _ hH ls (lv_sub hl [1, 2, 3, 4, 0] rfl)
      · have hn := hN f (by omega) (by omega)
        have e1 := hE f i (by omega) (by omega) (by omega) (by omega)
        have o1 := hO f i (by omega) (by omega) (by omega) (by omega)
        have e2 := hE q j (by omega) (by omega) (by omega) (by omega)
        have o2 := hO q j (by omega) (by omega) (by omega) (by omega)
        refine lv_aload_n zx zb dX6_crossings_62 rfl (lv_at hl 0 rfl) ?_
        refine lv_iload_n zx zb dX6_crossings_63 rfl (lv_at hl 1 rfl) ?_
        refine lv_iload zx zb dX6_crossings_64 (lv_at hl 4 rfl) ?_
        refine csI (rest := [.ref (g.1 0)]) (As := [.int (iI f), .int (iI i)]) C0 hH (c_X5_place l g S f i) kw_X6_128 ky_X5_place ⟨Nat.le_of_ble_eq_true rfl, Nat.le_of_ble_eq_true rfl⟩ ⟨Nat.zero_le _, Nat.zero_le _⟩ rfl hl.1 rfl (Nat.le_of_ble_eq_true rfl) dX6_crossings_66 (fun H locs hH => ?_)
        refine lv_iload_n zx zb dX6_crossings_69 rfl (lv_at hl 2 rfl) ?_
        refine lv_iload zx zb dX6_crossings_70 (lv_at hl 5 rfl) ?_
        refine csI (rest := [.int (iI (10 * f + i)), .ref (g.1 0)]) (As := [.int (iI q), .int (iI j)]) C0 hH (c_X5_place l g S q j) kw_X6_128 ky_X5_place ⟨Nat.le_of_ble_eq_true rfl, Nat.le_of_ble_eq_true rfl⟩ ⟨Nat.zero_le _, Nat.zero_le _⟩ rfl hl.1 rfl (Nat.le_of_ble_eq_true rfl) dX6_crossings_72 (fun H locs hH => ?_)
        refine cvI (rest := []) (As := [.int (iI (10 * f + i)), .int (iI (10 * q + j))]) (b := g.1 0) C0 hH (c_X6_linesCross l g S (10 * f + i) (10 * q + j) (by omega) (by omega) (by omega) (by omega) (by omega) (by omega) (hC)) kw_X6_158 ky_X6_linesCross ⟨Nat.le_of_ble_eq_true rfl, Nat.le_of_ble_eq_true rfl⟩ ⟨Nat.zero_le _, Nat.zero_le _⟩ 0 rfl rfl rfl hl.1 rfl (Nat.le_of_ble_eq_true rfl) dX6_crossings_75 (fun H locs hH => ?_)
        have hb78 := brg (lcB (S 2) (S 3) (S 6) (S 7) (10 * f + i) (10 * q + j))
        refine bz_eq (tgt := 84) zx zb dX6_crossings_78 (by decide) ⟨by omega, by omega⟩ (fun zq78 => ?_) (fun zq78 => ?_)
        · refine bi_inc (k0 := 5) (n := 1) (lv' := [(6, .int (iI (j + 1))), (0, .ref (g.1 0)), (1, .int (iI f)), (2, .int (iI q)), (3, .int (iI b)), (4, .int (iI i))]) zx zb dX6_crossings_84 hl rfl (by decide) rfl (fun ls hl => ?_)
          refine lv_goto (tgt := 48) zx zb dX6_crossings_87 (by decide) ?_
          exact ih48 ((S 5 q - (j + 1)).toNat) (by omega) b (j + 1) rfl (by omega) (by omega) (by first | (rw [hS, lpF_s (n := S 5 q) zq59, show (crN (S 2) (S 3) (S 6) (S 7) (10 * f + i) (10 * q)) j b = b from cnQ_0 (b0 zq78)]; done) | (rw [hS, lpF_s (n := S 5 q) zq59, show (crN (S 2) (S 3) (S 6) (S 7) (10 * f + i) (10 * q)) j b = b + 1 from cnQ_1 (b1 zq78)]; done)) _ _ hH ls (lv_sub hl [1, 2, 3, 4, 5, 0] rfl)
        · refine bi_inc (k0 := 3) (n := 1) (lv' := [(3, .int (iI (b + 1))), (0, .ref (g.1 0)), (1, .int (iI f)), (2, .int (iI q)), (4, .int (iI i)), (6, .int (iI j))]) zx zb dX6_crossings_81 hl rfl (by decide) rfl (fun ls hl => ?_)
          refine bi_inc (k0 := 5) (n := 1) (lv' := [(6, .int (iI (j + 1))), (3, .int (iI (b + 1))), (0, .ref (g.1 0)), (1, .int (iI f)), (2, .int (iI q)), (4, .int (iI i))]) zx zb dX6_crossings_84 hl rfl (by decide) rfl (fun ls hl => ?_)
          refine lv_goto (tgt := 48) zx zb dX6_crossings_87 (by decide) ?_
          exact ih48 ((S 5 q - (j + 1)).toNat) (by omega) (b + 1) (j + 1) rfl (by omega) (by omega) (by first | (rw [hS, lpF_s (n := S 5 q) zq59, show (crN (S 2) (S 3) (S 6) (S 7) (10 * f + i) (10 * q)) j b = b from cnQ_0 (b0 zq78)]; done) | (rw [hS, lpF_s (n := S 5 q) zq59, show (crN (S 2) (S 3) (S 6) (S 7) (10 * f + i) (10 * q)) j b = b + 1 from cnQ_1 (b1 zq78)]; done)) _ _ hH ls (lv_sub hl [2, 3, 4, 1, 5, 0] rfl)
    have hn := hN f (by omega) (by omega)
    refine lv_iload zx zb dX6_crossings_15 (lv_at hl 4 rfl) ?_
    refine lv_aload_n zx zb dX6_crossings_17 rfl (lv_at hl 0 rfl) ?_
    refine gf_X6_19 C0 hH dX6_crossings_18 ?_
    refine gf_X6_102 C0 hH dX6_crossings_21 ?_
    refine lv_iload_n zx zb dX6_crossings_24 rfl (lv_at hl 1 rfl) ?_
    refine al_5 C0 hH (by omega) (by omega) dX6_crossings_25 ?_
    refine bq_ge (tgt := 96) zx zb dX6_crossings_26 (by decide) ⟨by omega, by omega⟩ ⟨by omega, by omega⟩ (fun zq26 => ?_) (fun zq26 => ?_)
    · refine lv_iload_n zx zb dX6_crossings_96 rfl (lv_at hl 3 rfl) ?_
      exact retI C0 hret hlk hH (by rw [hR, lpF_e zq26]) (rfl) dX6_crossings_97
    · refine lv_iload_n zx zb dX6_crossings_29 rfl (lv_at hl 1 rfl) ?_
      refine lv_iload_n zx zb dX6_crossings_30 rfl (lv_at hl 2 rfl) ?_
      refine bq_ne (tgt := 41) zx zb dX6_crossings_31 (by decide) ⟨by omega, by omega⟩ ⟨by omega, by omega⟩ (fun zq31 => ?_) (fun zq31 => ?_)
      · refine bi_const (n := 0) zx zb dX6_crossings_41 ?_
        refine lv_istore (lv' := [(5, .int (iI 0)), (0, .ref (g.1 0)), (1, .int (iI f)), (2, .int (iI q)), (3, .int (iI a)), (4, .int (iI i))]) zx zb dX6_crossings_42 hl (by decide) rfl (fun ls hl => ?_)
        refine lv_iload zx zb dX6_crossings_44 (lv_at hl 0 rfl) ?_
        refine lv_istore (lv' := [(6, .int (iI 0)), (5, .int (iI 0)), (0, .ref (g.1 0)), (1, .int (iI f)), (2, .int (iI q)), (3, .int (iI a)), (4, .int (iI i))]) zx zb dX6_crossings_46 hl (by decide) rfl (fun ls hl => ?_)
        exact L48 _ a 0 rfl (by omega) (by omega) (by rw [hR, lpF_s zq26]; unfold crF; first | (rw [if_pos zq31]; done) | (rw [if_neg zq31]; done)) _ _ hH ls (lv_sub hl [2, 3, 4, 5, 6, 0] rfl)
      · refine lv_iload zx zb dX6_crossings_34 (lv_at hl 4 rfl) ?_
        refine bi_const (n := 1) zx zb dX6_crossings_36 ?_
        refine bi_add zx zb dX6_crossings_37 ?_
        refine lv_goto (tgt := 42) zx zb dX6_crossings_38 (by decide) ?_
        refine lv_istore (lv' := [(5, .int (iI (i + 1))), (0, .ref (g.1 0)), (1, .int (iI f)), (2, .int (iI q)), (3, .int (iI a)), (4, .int (iI i))]) zx zb dX6_crossings_42 hl (by decide) rfl (fun ls hl => ?_)
        refine lv_iload zx zb dX6_crossings_44 (lv_at hl 0 rfl) ?_
        refine lv_istore (lv' := [(6, .int (iI (i + 1))), (5, .int (iI (i + 1))), (0, .ref (g.1 0)), (1, .int (iI f)), (2, .int (iI q)), (3, .int (iI a)), (4, .int (iI i))]) zx zb dX6_crossings_46 hl (by decide) rfl (fun ls hl => ?_)
        exact L48 _ a (i + 1) rfl (by omega) (by omega) (by rw [hR, lpF_s zq26]; unfold crF; first | (rw [if_pos zq31]; done) | (rw [if_neg zq31]; done)) _ _ hH ls (lv_sub hl [2, 3, 4, 5, 6, 0] rfl)
  obtain ⟨H, hHe⟩ : ∃ H : Heap, H = s.heap := ⟨_, rfl⟩
  rw [show (Hp g S s s.heap []) = Hp g S s H [] by rw [hHe]] at hH
  rw [← hHe]
  have hn := hN f (by omega) (by omega)
  have hn2 := hN q (by omega) (by omega)
  refine lv_aload_n zx zb dX6_crossings_0 rfl (lv_at hl 0 rfl) ?_
  refine lv_iload_n zx zb dX6_crossings_1 rfl (lv_at hl 1 rfl) ?_
  refine cvN (rest := []) (As := [.int (iI f)]) (b := g.1 0) C0 hH (c_X6_needFigure l g S f (by omega) (by omega)) kw_X6_94 ky_X6_needFigure ⟨Nat.le_of_ble_eq_true rfl, Nat.le_of_ble_eq_true rfl⟩ ⟨Nat.zero_le _, Nat.zero_le _⟩ 0 rfl rfl rfl hl.1 rfl (Nat.le_of_ble_eq_true rfl) dX6_crossings_2 (fun H locs hH => ?_)
  refine lv_aload_n zx zb dX6_crossings_5 rfl (lv_at hl 0 rfl) ?_
  refine lv_iload_n zx zb dX6_crossings_6 rfl (lv_at hl 2 rfl) ?_
  refine cvN (rest := []) (As := [.int (iI q)]) (b := g.1 0) C0 hH (c_X6_needFigure l g S q (by omega) (by omega)) kw_X6_94 ky_X6_needFigure ⟨Nat.le_of_ble_eq_true rfl, Nat.le_of_ble_eq_true rfl⟩ ⟨Nat.zero_le _, Nat.zero_le _⟩ 0 rfl rfl rfl hl.1 rfl (Nat.le_of_ble_eq_true rfl) dX6_crossings_7 (fun H locs hH => ?_)
  refine bi_const (n := 0) zx zb dX6_crossings_10 ?_
  refine lv_istore_n (lv' := [(3, .int (iI 0)), (0, .ref (g.1 0)), (1, .int (iI f)), (2, .int (iI q))]) zx zb dX6_crossings_11 rfl hl (by decide) rfl (fun ls hl => ?_)
  refine bi_const (n := 0) zx zb dX6_crossings_12 ?_
  refine lv_istore (lv' := [(4, .int (iI 0)), (3, .int (iI 0)), (0, .ref (g.1 0)), (1, .int (iI f)), (2, .int (iI q))]) zx zb dX6_crossings_13 hl (by decide) rfl (fun ls hl => ?_)
  exact L15 _ 0 0 rfl (by omega) (by unfold crI; rw [Int.sub_zero]) _ _ hH ls (lv_sub hl [2, 3, 4, 1, 0] rfl)
set_option maxRecDepth 100000 in
set_option maxHeartbeats 4000000 in
theorem x1_X6_crossings (l : Launch) (g : gT) (S : gSt) (f q : Int) (hnf : 0 ≤ S 4 0 ∧ S 4 0 ≤ 8) (hr_f : -2147483648 ≤ f ∧ f < 2147483648) (hr_q : -2147483648 ≤ q ∧ q < 2147483648) (hbad : ¬((0 ≤ f ∧ f < S 4 0) ∧ (0 ≤ q ∧ q < S 4 0))) (hfl : l.stackTraces = false) : ThrG l g yX6_crossings cX6_crossings 7 (some .int) 7 106 [.ref (g.1 0), .int (iI f), .int (iI q)] S "java/lang/IndexOutOfBoundsException" S := by
  refine bodyX (by decide +kernel) (Nat.le_of_ble_eq_true rfl) ?_
  intro p e s m args below meth c ls C0 htab hlk hl hH
  have zx := C0.1
  have zb := C0.2.1
  have hl : lv_has ls 7 [(0, .ref (g.1 0)), (1, .int (iI f)), (2, .int (iI q))] := hl
  obtain ⟨H, hHe⟩ : ∃ H : Heap, H = s.heap := ⟨_, rfl⟩
  rw [show (Hp g S s s.heap []) = Hp g S s H [] by rw [hHe]] at hH
  rw [← hHe]
  refine lv_aload_n zx zb dX6_crossings_0 rfl (lv_at hl 0 rfl) ?_
  refine lv_iload_n zx zb dX6_crossings_1 rfl (lv_at hl 1 rfl) ?_
  by_cases hc2 : 0 ≤ f ∧ f < S 4 0
  · refine cvN (rest := []) (As := [.int (iI f)]) (b := g.1 0) C0 hH (c_X6_needFigure l g S f (by omega) (by omega)) kw_X6_94 ky_X6_needFigure ⟨Nat.le_of_ble_eq_true rfl, Nat.le_of_ble_eq_true rfl⟩ ⟨Nat.zero_le _, Nat.zero_le _⟩ 0 rfl rfl rfl hl.1 rfl (Nat.le_of_ble_eq_true rfl) dX6_crossings_2 (fun H locs hH => ?_)
    refine lv_aload_n zx zb dX6_crossings_5 rfl (lv_at hl 0 rfl) ?_
    refine lv_iload_n zx zb dX6_crossings_6 rfl (lv_at hl 2 rfl) ?_
    exact cvX (rest := []) (As := [.int (iI q)]) (b := g.1 0) C0 htab hlk hH (x_X6_needFigure l g S q (by omega) (by omega) (by omega) hfl) kw_X6_94 ky_X6_needFigure ⟨Nat.le_of_ble_eq_true rfl, Nat.le_of_ble_eq_true rfl⟩ ⟨Nat.le_of_ble_eq_true rfl, Nat.le_of_ble_eq_true rfl⟩ 0 rfl rfl rfl hl.1 rfl (Nat.le_of_ble_eq_true rfl) dX6_crossings_7
  · exact cvX (rest := []) (As := [.int (iI f)]) (b := g.1 0) C0 htab hlk hH (x_X6_needFigure l g S f (by omega) (by omega) (by omega) hfl) kw_X6_94 ky_X6_needFigure ⟨Nat.le_of_ble_eq_true rfl, Nat.le_of_ble_eq_true rfl⟩ ⟨Nat.le_of_ble_eq_true rfl, Nat.le_of_ble_eq_true rfl⟩ 0 rfl rfl rfl hl.1 rfl (Nat.le_of_ble_eq_true rfl) dX6_crossings_2
set_option maxRecDepth 100000 in
set_option maxHeartbeats 4000000 in
theorem c_X6_vote (l : Launch) (g : gT) (S : gSt) (v f n : Int) (hvo : 0 ≤ v ∧ v < 6) (hnf : 0 ≤ S 4 0 ∧ S 4 0 ≤ 8) (hfo : 0 ≤ f ∧ f < S 4 0) (hn : -1 ≤ n ∧ n < 10) (h9 : ∀ j : Int, 0 ≤ j → j < 48 → -1 ≤ S 9 j ∧ S 9 j < 10) (hT : ∀ j : Int, 0 ≤ j → j < 80 → -7 ≤ S 10 j ∧ S 10 j ≤ 7) : MetG l g yX6_vote cX6_vote 4 (some .int) 3 73 [.ref (g.1 0), .int (iI v), .int (iI f), .int (iI n)] S (some (.int (iI (S 9 (v * 8 + f))))) (rpS S v f n) := by
  refine bodyG (by decide +kernel) (Nat.le_of_ble_eq_true rfl) ?_
  intro p e s m args below meth c ls C0 hret hlk hl hH
  have zx := C0.1
  have zb := C0.2.1
  have hl : lv_has ls 4 [(0, .ref (g.1 0)), (1, .int (iI v)), (2, .int (iI f)), (3, .int (iI n))] := hl
  obtain ⟨H, hHe⟩ : ∃ H : Heap, H = s.heap := ⟨_, rfl⟩
  rw [show (Hp g S s s.heap []) = Hp g S s H [] by rw [hHe]] at hH
  rw [← hHe]
  refine lv_iload_n zx zb dX6_vote_0 rfl (lv_at hl 1 rfl) ?_
  refine bz_lt (tgt := 10) zx zb dX6_vote_1 (by decide) ⟨by omega, by omega⟩ (fun zq1 => ?_) (fun zq1 => ?_)
  · exact absurd zq1 (by omega)
  · refine lv_iload_n zx zb dX6_vote_4 rfl (lv_at hl 1 rfl) ?_
    refine bi_bip (n := 6) zx zb dX6_vote_5 (by decide) ?_
    refine bq_lt (tgt := 20) zx zb dX6_vote_7 (by decide) ⟨by omega, by omega⟩ ⟨by omega, by omega⟩ (fun zq7 => ?_) (fun zq7 => ?_)
    · refine lv_aload_n zx zb dX6_vote_20 rfl (lv_at hl 0 rfl) ?_
      refine lv_iload_n zx zb dX6_vote_21 rfl (lv_at hl 2 rfl) ?_
      refine cvN (rest := []) (As := [.int (iI f)]) (b := g.1 0) C0 hH (c_X6_needFigure l g S f (by omega) (by omega)) kw_X6_94 ky_X6_needFigure ⟨Nat.le_of_ble_eq_true rfl, Nat.le_of_ble_eq_true rfl⟩ ⟨Nat.zero_le _, Nat.zero_le _⟩ 0 rfl rfl rfl hl.1 rfl (Nat.le_of_ble_eq_true rfl) dX6_vote_22 (fun H locs hH => ?_)
      refine lv_iload_n zx zb dX6_vote_25 rfl (lv_at hl 3 rfl) ?_
      refine bi_const (n := (-1)) zx zb dX6_vote_26 ?_
      refine bq_eq (tgt := 34) zx zb dX6_vote_27 (by decide) ⟨by omega, by omega⟩ ⟨by omega, by omega⟩ (fun zq27 => ?_) (fun zq27 => ?_)
      · refine lv_aload_n zx zb dX6_vote_34 rfl (lv_at hl 0 rfl) ?_
        refine gf_X6_26 C0 hH dX6_vote_35 ?_
        refine lv_iload_n zx zb dX6_vote_38 rfl (lv_at hl 1 rfl) ?_
        refine lv_iload_n zx zb dX6_vote_39 rfl (lv_at hl 2 rfl) ?_
        refine lv_iload_n zx zb dX6_vote_40 rfl (lv_at hl 3 rfl) ?_
        refine cvI (rest := []) (As := [.int (iI v), .int (iI f), .int (iI n)]) (b := g.1 8) C0 hH (c_X1_replace l g S v f n (by omega) (by omega) (by omega) (h9) (hT)) kw_X6_166 ky_X1_replace ⟨Nat.le_of_ble_eq_true rfl, Nat.le_of_ble_eq_true rfl⟩ ⟨Nat.zero_le _, Nat.zero_le _⟩ 8 rfl rfl rfl hl.1 rfl (Nat.le_of_ble_eq_true rfl) dX6_vote_41 (fun H locs hH => ?_)
        exact retI C0 hret hlk hH (by rfl) (rfl) dX6_vote_44
      · refine lv_iload_n zx zb dX6_vote_30 rfl (lv_at hl 3 rfl) ?_
        refine csN (rest := []) (As := [.int (iI n)]) C0 hH (c_X6_needName l g S n (by omega)) kw_X6_163 ky_X6_needName ⟨Nat.le_of_ble_eq_true rfl, Nat.le_of_ble_eq_true rfl⟩ ⟨Nat.zero_le _, Nat.zero_le _⟩ rfl hl.1 rfl (Nat.le_of_ble_eq_true rfl) dX6_vote_31 (fun H locs hH => ?_)
        refine lv_aload_n zx zb dX6_vote_34 rfl (lv_at hl 0 rfl) ?_
        refine gf_X6_26 C0 hH dX6_vote_35 ?_
        refine lv_iload_n zx zb dX6_vote_38 rfl (lv_at hl 1 rfl) ?_
        refine lv_iload_n zx zb dX6_vote_39 rfl (lv_at hl 2 rfl) ?_
        refine lv_iload_n zx zb dX6_vote_40 rfl (lv_at hl 3 rfl) ?_
        refine cvI (rest := []) (As := [.int (iI v), .int (iI f), .int (iI n)]) (b := g.1 8) C0 hH (c_X1_replace l g S v f n (by omega) (by omega) (by omega) (h9) (hT)) kw_X6_166 ky_X1_replace ⟨Nat.le_of_ble_eq_true rfl, Nat.le_of_ble_eq_true rfl⟩ ⟨Nat.zero_le _, Nat.zero_le _⟩ 8 rfl rfl rfl hl.1 rfl (Nat.le_of_ble_eq_true rfl) dX6_vote_41 (fun H locs hH => ?_)
        exact retI C0 hret hlk hH (by rfl) (rfl) dX6_vote_44
    · exact absurd zq7 (by omega)
set_option maxRecDepth 100000 in
set_option maxHeartbeats 4000000 in
theorem x1_X6_vote (l : Launch) (g : gT) (S : gSt) (v f n : Int) (hnf : 0 ≤ S 4 0 ∧ S 4 0 ≤ 8) (hr_v : -2147483648 ≤ v ∧ v < 2147483648) (hr_f : -2147483648 ≤ f ∧ f < 2147483648) (hr_n : -2147483648 ≤ n ∧ n < 2147483648) (hbad : ¬((0 ≤ v ∧ v < 6) ∧ (0 ≤ f ∧ f < S 4 0))) (hfl : l.stackTraces = false) : ThrG l g yX6_vote cX6_vote 4 (some .int) 7 106 [.ref (g.1 0), .int (iI v), .int (iI f), .int (iI n)] S "java/lang/IndexOutOfBoundsException" S := by
  refine bodyX (by decide +kernel) (Nat.le_of_ble_eq_true rfl) ?_
  intro p e s m args below meth c ls C0 htab hlk hl hH
  have zx := C0.1
  have zb := C0.2.1
  have hl : lv_has ls 4 [(0, .ref (g.1 0)), (1, .int (iI v)), (2, .int (iI f)), (3, .int (iI n))] := hl
  obtain ⟨H, hHe⟩ : ∃ H : Heap, H = s.heap := ⟨_, rfl⟩
  rw [show (Hp g S s s.heap []) = Hp g S s H [] by rw [hHe]] at hH
  rw [← hHe]
  refine lv_iload_n zx zb dX6_vote_0 rfl (lv_at hl 1 rfl) ?_
  refine bz_lt (tgt := 10) zx zb dX6_vote_1 (by decide) ⟨by omega, by omega⟩ (fun zq1 => ?_) (fun zq1 => ?_)
  · exact thG (text := "no such voter") (names := ["java/lang/RuntimeException", "java/lang/Exception"]) hfl C0 htab hlk hH rfl (by decide +kernel) (by decide +kernel) (gm 291 (by decide +kernel) rfl) (gm 31 (by decide +kernel) rfl) (List.mem_of_getElem? (i := 435) (by decide +kernel)) (atS_IOE C0.2.2.2.2.1) gdS_IOE hl.1 dX6_vote_10 dX6_vote_13 dX6_vote_14 dX6_vote_16 dX6_vote_19 (by decide) (Nat.le_of_ble_eq_true rfl) (by decide) (by decide)
  · refine lv_iload_n zx zb dX6_vote_4 rfl (lv_at hl 1 rfl) ?_
    refine bi_bip (n := 6) zx zb dX6_vote_5 (by decide) ?_
    refine bq_lt (tgt := 20) zx zb dX6_vote_7 (by decide) ⟨by omega, by omega⟩ ⟨by omega, by omega⟩ (fun zq7 => ?_) (fun zq7 => ?_)
    · refine lv_aload_n zx zb dX6_vote_20 rfl (lv_at hl 0 rfl) ?_
      refine lv_iload_n zx zb dX6_vote_21 rfl (lv_at hl 2 rfl) ?_
      exact cvX (rest := []) (As := [.int (iI f)]) (b := g.1 0) C0 htab hlk hH (x_X6_needFigure l g S f (by omega) (by omega) (by omega) hfl) kw_X6_94 ky_X6_needFigure ⟨Nat.le_of_ble_eq_true rfl, Nat.le_of_ble_eq_true rfl⟩ ⟨Nat.le_of_ble_eq_true rfl, Nat.le_of_ble_eq_true rfl⟩ 0 rfl rfl rfl hl.1 rfl (Nat.le_of_ble_eq_true rfl) dX6_vote_22
    · exact thG (text := "no such voter") (names := ["java/lang/RuntimeException", "java/lang/Exception"]) hfl C0 htab hlk hH rfl (by decide +kernel) (by decide +kernel) (gm 291 (by decide +kernel) rfl) (gm 31 (by decide +kernel) rfl) (List.mem_of_getElem? (i := 435) (by decide +kernel)) (atS_IOE C0.2.2.2.2.1) gdS_IOE hl.1 dX6_vote_10 dX6_vote_13 dX6_vote_14 dX6_vote_16 dX6_vote_19 (by decide) (Nat.le_of_ble_eq_true rfl) (by decide) (by decide)
set_option maxRecDepth 100000 in
set_option maxHeartbeats 4000000 in
theorem x2_X6_vote (l : Launch) (g : gT) (S : gSt) (v f n : Int) (hvo : 0 ≤ v ∧ v < 6) (hnf : 0 ≤ S 4 0 ∧ S 4 0 ≤ 8) (hfo : 0 ≤ f ∧ f < S 4 0) (hr_n : -2147483648 ≤ n ∧ n < 2147483648) (hbad : ¬(-1 ≤ n ∧ n < 10)) (hfl : l.stackTraces = false) : ThrG l g yX6_vote cX6_vote 4 (some .int) 7 105 [.ref (g.1 0), .int (iI v), .int (iI f), .int (iI n)] S "java/lang/IllegalArgumentException" S := by
  refine bodyX (by decide +kernel) (Nat.le_of_ble_eq_true rfl) ?_
  intro p e s m args below meth c ls C0 htab hlk hl hH
  have zx := C0.1
  have zb := C0.2.1
  have hl : lv_has ls 4 [(0, .ref (g.1 0)), (1, .int (iI v)), (2, .int (iI f)), (3, .int (iI n))] := hl
  obtain ⟨H, hHe⟩ : ∃ H : Heap, H = s.heap := ⟨_, rfl⟩
  rw [show (Hp g S s s.heap []) = Hp g S s H [] by rw [hHe]] at hH
  rw [← hHe]
  refine lv_iload_n zx zb dX6_vote_0 rfl (lv_at hl 1 rfl) ?_
  refine bz_lt (tgt := 10) zx zb dX6_vote_1 (by decide) ⟨by omega, by omega⟩ (fun zq1 => ?_) (fun zq1 => ?_)
  · exact absurd zq1 (by omega)
  · refine lv_iload_n zx zb dX6_vote_4 rfl (lv_at hl 1 rfl) ?_
    refine bi_bip (n := 6) zx zb dX6_vote_5 (by decide) ?_
    refine bq_lt (tgt := 20) zx zb dX6_vote_7 (by decide) ⟨by omega, by omega⟩ ⟨by omega, by omega⟩ (fun zq7 => ?_) (fun zq7 => ?_)
    · refine lv_aload_n zx zb dX6_vote_20 rfl (lv_at hl 0 rfl) ?_
      refine lv_iload_n zx zb dX6_vote_21 rfl (lv_at hl 2 rfl) ?_
      refine cvN (rest := []) (As := [.int (iI f)]) (b := g.1 0) C0 hH (c_X6_needFigure l g S f (by omega) (by omega)) kw_X6_94 ky_X6_needFigure ⟨Nat.le_of_ble_eq_true rfl, Nat.le_of_ble_eq_true rfl⟩ ⟨Nat.zero_le _, Nat.zero_le _⟩ 0 rfl rfl rfl hl.1 rfl (Nat.le_of_ble_eq_true rfl) dX6_vote_22 (fun H locs hH => ?_)
      refine lv_iload_n zx zb dX6_vote_25 rfl (lv_at hl 3 rfl) ?_
      refine bi_const (n := (-1)) zx zb dX6_vote_26 ?_
      refine bq_eq (tgt := 34) zx zb dX6_vote_27 (by decide) ⟨by omega, by omega⟩ ⟨by omega, by omega⟩ (fun zq27 => ?_) (fun zq27 => ?_)
      · exact absurd zq27 (by omega)
      · refine lv_iload_n zx zb dX6_vote_30 rfl (lv_at hl 3 rfl) ?_
        exact csX (rest := []) (As := [.int (iI n)]) C0 htab hlk hH (x_X6_needName l g S n (by omega) (by omega) hfl) kw_X6_163 ky_X6_needName ⟨Nat.le_of_ble_eq_true rfl, Nat.le_of_ble_eq_true rfl⟩ ⟨Nat.le_of_ble_eq_true rfl, Nat.le_of_ble_eq_true rfl⟩ rfl hl.1 rfl (Nat.le_of_ble_eq_true rfl) dX6_vote_31
    · exact absurd zq7 (by omega)
set_option maxRecDepth 100000 in
set_option maxHeartbeats 4000000 in
theorem c_X6_votes (l : Launch) (g : gT) (S : gSt) (f n : Int) (hnf : 0 ≤ S 4 0 ∧ S 4 0 ≤ 8) (hfo : 0 ≤ f ∧ f < S 4 0) (hn : 0 ≤ n ∧ n < 10) : MetG l g yX6_votes cX6_votes 3 (some .int) 1 21 [.ref (g.1 0), .int (iI f), .int (iI n)] S (some (.int (iI (S 10 (f * 10 + n))))) S := by
  refine bodyG (by decide +kernel) (Nat.le_of_ble_eq_true rfl) ?_
  intro p e s m args below meth c ls C0 hret hlk hl hH
  have zx := C0.1
  have zb := C0.2.1
  have hl : lv_has ls 3 [(0, .ref (g.1 0)), (1, .int (iI f)), (2, .int (iI n))] := hl
  obtain ⟨H, hHe⟩ : ∃ H : Heap, H = s.heap := ⟨_, rfl⟩
  rw [show (Hp g S s s.heap []) = Hp g S s H [] by rw [hHe]] at hH
  rw [← hHe]
  refine lv_aload_n zx zb dX6_votes_0 rfl (lv_at hl 0 rfl) ?_
  refine lv_iload_n zx zb dX6_votes_1 rfl (lv_at hl 1 rfl) ?_
  refine cvN (rest := []) (As := [.int (iI f)]) (b := g.1 0) C0 hH (c_X6_needFigure l g S f (by omega) (by omega)) kw_X6_94 ky_X6_needFigure ⟨Nat.le_of_ble_eq_true rfl, Nat.le_of_ble_eq_true rfl⟩ ⟨Nat.zero_le _, Nat.zero_le _⟩ 0 rfl rfl rfl hl.1 rfl (Nat.le_of_ble_eq_true rfl) dX6_votes_2 (fun H locs hH => ?_)
  refine lv_iload_n zx zb dX6_votes_5 rfl (lv_at hl 2 rfl) ?_
  refine csN (rest := []) (As := [.int (iI n)]) C0 hH (c_X6_needName l g S n (by omega)) kw_X6_163 ky_X6_needName ⟨Nat.le_of_ble_eq_true rfl, Nat.le_of_ble_eq_true rfl⟩ ⟨Nat.zero_le _, Nat.zero_le _⟩ rfl hl.1 rfl (Nat.le_of_ble_eq_true rfl) dX6_votes_6 (fun H locs hH => ?_)
  refine lv_aload_n zx zb dX6_votes_9 rfl (lv_at hl 0 rfl) ?_
  refine gf_X6_26 C0 hH dX6_votes_10 ?_
  refine gf_X6_170 C0 hH dX6_votes_13 ?_
  refine lv_iload_n zx zb dX6_votes_16 rfl (lv_at hl 1 rfl) ?_
  refine bi_bip (n := 10) zx zb dX6_votes_17 (by decide) ?_
  refine bi_mul zx zb dX6_votes_19 ?_
  refine lv_iload_n zx zb dX6_votes_20 rfl (lv_at hl 2 rfl) ?_
  refine bi_add zx zb dX6_votes_21 ?_
  refine al_10 C0 hH (by omega) (by omega) dX6_votes_22 ?_
  exact retI C0 hret hlk hH (by rfl) (rfl) dX6_votes_23
set_option maxRecDepth 100000 in
set_option maxHeartbeats 4000000 in
theorem x1_X6_votes (l : Launch) (g : gT) (S : gSt) (f n : Int) (hnf : 0 ≤ S 4 0 ∧ S 4 0 ≤ 8) (hr_f : -2147483648 ≤ f ∧ f < 2147483648) (hr_n : -2147483648 ≤ n ∧ n < 2147483648) (hfb : ¬(0 ≤ f ∧ f < S 4 0)) (hfl : l.stackTraces = false) : ThrG l g yX6_votes cX6_votes 3 (some .int) 7 106 [.ref (g.1 0), .int (iI f), .int (iI n)] S "java/lang/IndexOutOfBoundsException" S := by
  refine bodyX (by decide +kernel) (Nat.le_of_ble_eq_true rfl) ?_
  intro p e s m args below meth c ls C0 htab hlk hl hH
  have zx := C0.1
  have zb := C0.2.1
  have hl : lv_has ls 3 [(0, .ref (g.1 0)), (1, .int (iI f)), (2, .int (iI n))] := hl
  obtain ⟨H, hHe⟩ : ∃ H : Heap, H = s.heap := ⟨_, rfl⟩
  rw [show (Hp g S s s.heap []) = Hp g S s H [] by rw [hHe]] at hH
  rw [← hHe]
  refine lv_aload_n zx zb dX6_votes_0 rfl (lv_at hl 0 rfl) ?_
  refine lv_iload_n zx zb dX6_votes_1 rfl (lv_at hl 1 rfl) ?_
  exact cvX (rest := []) (As := [.int (iI f)]) (b := g.1 0) C0 htab hlk hH (x_X6_needFigure l g S f (by omega) (by omega) (by omega) hfl) kw_X6_94 ky_X6_needFigure ⟨Nat.le_of_ble_eq_true rfl, Nat.le_of_ble_eq_true rfl⟩ ⟨Nat.le_of_ble_eq_true rfl, Nat.le_of_ble_eq_true rfl⟩ 0 rfl rfl rfl hl.1 rfl (Nat.le_of_ble_eq_true rfl) dX6_votes_2
set_option maxRecDepth 100000 in
set_option maxHeartbeats 4000000 in
theorem x2_X6_votes (l : Launch) (g : gT) (S : gSt) (f n : Int) (hnf : 0 ≤ S 4 0 ∧ S 4 0 ≤ 8) (hfo : 0 ≤ f ∧ f < S 4 0) (hr_n : -2147483648 ≤ n ∧ n < 2147483648) (hbad : ¬(0 ≤ n ∧ n < 10)) (hfl : l.stackTraces = false) : ThrG l g yX6_votes cX6_votes 3 (some .int) 7 105 [.ref (g.1 0), .int (iI f), .int (iI n)] S "java/lang/IllegalArgumentException" S := by
  refine bodyX (by decide +kernel) (Nat.le_of_ble_eq_true rfl) ?_
  intro p e s m args below meth c ls C0 htab hlk hl hH
  have zx := C0.1
  have zb := C0.2.1
  have hl : lv_has ls 3 [(0, .ref (g.1 0)), (1, .int (iI f)), (2, .int (iI n))] := hl
  obtain ⟨H, hHe⟩ : ∃ H : Heap, H = s.heap := ⟨_, rfl⟩
  rw [show (Hp g S s s.heap []) = Hp g S s H [] by rw [hHe]] at hH
  rw [← hHe]
  refine lv_aload_n zx zb dX6_votes_0 rfl (lv_at hl 0 rfl) ?_
  refine lv_iload_n zx zb dX6_votes_1 rfl (lv_at hl 1 rfl) ?_
  refine cvN (rest := []) (As := [.int (iI f)]) (b := g.1 0) C0 hH (c_X6_needFigure l g S f (by omega) (by omega)) kw_X6_94 ky_X6_needFigure ⟨Nat.le_of_ble_eq_true rfl, Nat.le_of_ble_eq_true rfl⟩ ⟨Nat.zero_le _, Nat.zero_le _⟩ 0 rfl rfl rfl hl.1 rfl (Nat.le_of_ble_eq_true rfl) dX6_votes_2 (fun H locs hH => ?_)
  refine lv_iload_n zx zb dX6_votes_5 rfl (lv_at hl 2 rfl) ?_
  exact csX (rest := []) (As := [.int (iI n)]) C0 htab hlk hH (x_X6_needName l g S n (by omega) (by omega) hfl) kw_X6_163 ky_X6_needName ⟨Nat.le_of_ble_eq_true rfl, Nat.le_of_ble_eq_true rfl⟩ ⟨Nat.le_of_ble_eq_true rfl, Nat.le_of_ble_eq_true rfl⟩ rfl hl.1 rfl (Nat.le_of_ble_eq_true rfl) dX6_votes_6
set_option maxRecDepth 100000 in
set_option maxHeartbeats 4000000 in
theorem c_X6_nameOf (l : Launch) (g : gT) (S : gSt) (f : Int) (hnf : 0 ≤ S 4 0 ∧ S 4 0 ≤ 8) (hfo : 0 ≤ f ∧ f < S 4 0) : MetG l g yX6_nameOf cX6_nameOf 2 (some .int) 1 21 [.ref (g.1 0), .int (iI f)] S (some (.int (iI (S 11 f)))) S := by
  refine bodyG (by decide +kernel) (Nat.le_of_ble_eq_true rfl) ?_
  intro p e s m args below meth c ls C0 hret hlk hl hH
  have zx := C0.1
  have zb := C0.2.1
  have hl : lv_has ls 2 [(0, .ref (g.1 0)), (1, .int (iI f))] := hl
  obtain ⟨H, hHe⟩ : ∃ H : Heap, H = s.heap := ⟨_, rfl⟩
  rw [show (Hp g S s s.heap []) = Hp g S s H [] by rw [hHe]] at hH
  rw [← hHe]
  refine lv_aload_n zx zb dX6_nameOf_0 rfl (lv_at hl 0 rfl) ?_
  refine lv_iload_n zx zb dX6_nameOf_1 rfl (lv_at hl 1 rfl) ?_
  refine cvN (rest := []) (As := [.int (iI f)]) (b := g.1 0) C0 hH (c_X6_needFigure l g S f (by omega) (by omega)) kw_X6_94 ky_X6_needFigure ⟨Nat.le_of_ble_eq_true rfl, Nat.le_of_ble_eq_true rfl⟩ ⟨Nat.zero_le _, Nat.zero_le _⟩ 0 rfl rfl rfl hl.1 rfl (Nat.le_of_ble_eq_true rfl) dX6_nameOf_2 (fun H locs hH => ?_)
  refine lv_aload_n zx zb dX6_nameOf_5 rfl (lv_at hl 0 rfl) ?_
  refine gf_X6_26 C0 hH dX6_nameOf_6 ?_
  refine gf_X6_173 C0 hH dX6_nameOf_9 ?_
  refine lv_iload_n zx zb dX6_nameOf_12 rfl (lv_at hl 1 rfl) ?_
  refine al_11 C0 hH (by omega) (by omega) dX6_nameOf_13 ?_
  exact retI C0 hret hlk hH (by rfl) (rfl) dX6_nameOf_14
set_option maxRecDepth 100000 in
set_option maxHeartbeats 4000000 in
theorem x1_X6_nameOf (l : Launch) (g : gT) (S : gSt) (f : Int) (hnf : 0 ≤ S 4 0 ∧ S 4 0 ≤ 8) (hr_f : -2147483648 ≤ f ∧ f < 2147483648) (hfb : ¬(0 ≤ f ∧ f < S 4 0)) (hfl : l.stackTraces = false) : ThrG l g yX6_nameOf cX6_nameOf 2 (some .int) 7 106 [.ref (g.1 0), .int (iI f)] S "java/lang/IndexOutOfBoundsException" S := by
  refine bodyX (by decide +kernel) (Nat.le_of_ble_eq_true rfl) ?_
  intro p e s m args below meth c ls C0 htab hlk hl hH
  have zx := C0.1
  have zb := C0.2.1
  have hl : lv_has ls 2 [(0, .ref (g.1 0)), (1, .int (iI f))] := hl
  obtain ⟨H, hHe⟩ : ∃ H : Heap, H = s.heap := ⟨_, rfl⟩
  rw [show (Hp g S s s.heap []) = Hp g S s H [] by rw [hHe]] at hH
  rw [← hHe]
  refine lv_aload_n zx zb dX6_nameOf_0 rfl (lv_at hl 0 rfl) ?_
  refine lv_iload_n zx zb dX6_nameOf_1 rfl (lv_at hl 1 rfl) ?_
  exact cvX (rest := []) (As := [.int (iI f)]) (b := g.1 0) C0 htab hlk hH (x_X6_needFigure l g S f (by omega) (by omega) (by omega) hfl) kw_X6_94 ky_X6_needFigure ⟨Nat.le_of_ble_eq_true rfl, Nat.le_of_ble_eq_true rfl⟩ ⟨Nat.le_of_ble_eq_true rfl, Nat.le_of_ble_eq_true rfl⟩ 0 rfl rfl rfl hl.1 rfl (Nat.le_of_ble_eq_true rfl) dX6_nameOf_2
set_option maxRecDepth 100000 in
set_option maxHeartbeats 4000000 in
theorem c_X6_height (l : Launch) (g : gT) (S : gSt) (z lat d h : Int) (hn1 : 0 ≤ S 1 0 ∧ S 1 0 ≤ 24) (hzo : 0 ≤ z ∧ z < S 1 0) (hlat : -90 ≤ lat ∧ lat ≤ 90) (hd : 0 ≤ d ∧ d < 365) (hh : 0 ≤ h ∧ h < 24) (hC : okC (S 2) (S 3)) : MetG l g yX6_height cX6_height 5 (some .int) 4 93 [.ref (g.1 0), .int (iI z), .int (iI lat), .int (iI d), .int (iI h)] S (some (.int (iI (hg lat (S 3 z) (15 * h + d - S 2 z))))) S := by
  refine bodyG (by decide +kernel) (Nat.le_of_ble_eq_true rfl) ?_
  intro p e s m args below meth c ls C0 hret hlk hl hH
  have zx := C0.1
  have zb := C0.2.1
  have hl : lv_has ls 5 [(0, .ref (g.1 0)), (1, .int (iI z)), (2, .int (iI lat)), (3, .int (iI d)), (4, .int (iI h))] := hl
  obtain ⟨H, hHe⟩ : ∃ H : Heap, H = s.heap := ⟨_, rfl⟩
  rw [show (Hp g S s s.heap []) = Hp g S s H [] by rw [hHe]] at hH
  rw [← hHe]
  refine lv_aload_n zx zb dX6_height_0 rfl (lv_at hl 0 rfl) ?_
  refine lv_iload_n zx zb dX6_height_1 rfl (lv_at hl 1 rfl) ?_
  refine cvN (rest := []) (As := [.int (iI z)]) (b := g.1 0) C0 hH (c_X6_needStar l g S z (by omega) (by omega)) kw_X6_63 ky_X6_needStar ⟨Nat.le_of_ble_eq_true rfl, Nat.le_of_ble_eq_true rfl⟩ ⟨Nat.zero_le _, Nat.zero_le _⟩ 0 rfl rfl rfl hl.1 rfl (Nat.le_of_ble_eq_true rfl) dX6_height_2 (fun H locs hH => ?_)
  refine lv_iload_n zx zb dX6_height_5 rfl (lv_at hl 2 rfl) ?_
  refine csN (rest := []) (As := [.int (iI lat)]) C0 hH (c_X6_needLatitude l g S lat (by omega)) kw_X6_176 ky_X6_needLatitude ⟨Nat.le_of_ble_eq_true rfl, Nat.le_of_ble_eq_true rfl⟩ ⟨Nat.zero_le _, Nat.zero_le _⟩ rfl hl.1 rfl (Nat.le_of_ble_eq_true rfl) dX6_height_6 (fun H locs hH => ?_)
  refine lv_iload_n zx zb dX6_height_9 rfl (lv_at hl 3 rfl) ?_
  refine csN (rest := []) (As := [.int (iI d)]) C0 hH (c_X6_needDay l g S d (by omega)) kw_X6_179 ky_X6_needDay ⟨Nat.le_of_ble_eq_true rfl, Nat.le_of_ble_eq_true rfl⟩ ⟨Nat.zero_le _, Nat.zero_le _⟩ rfl hl.1 rfl (Nat.le_of_ble_eq_true rfl) dX6_height_10 (fun H locs hH => ?_)
  refine lv_iload zx zb dX6_height_13 (lv_at hl 4 rfl) ?_
  refine csN (rest := []) (As := [.int (iI h)]) C0 hH (c_X6_needHour l g S h (by omega)) kw_X6_182 ky_X6_needHour ⟨Nat.le_of_ble_eq_true rfl, Nat.le_of_ble_eq_true rfl⟩ ⟨Nat.zero_le _, Nat.zero_le _⟩ rfl hl.1 rfl (Nat.le_of_ble_eq_true rfl) dX6_height_15 (fun H locs hH => ?_)
  refine lv_aload_n zx zb dX6_height_18 rfl (lv_at hl 0 rfl) ?_
  refine gf_X6_12 C0 hH dX6_height_19 ?_
  refine lv_iload_n zx zb dX6_height_22 rfl (lv_at hl 1 rfl) ?_
  refine lv_iload_n zx zb dX6_height_23 rfl (lv_at hl 2 rfl) ?_
  refine lv_iload_n zx zb dX6_height_24 rfl (lv_at hl 3 rfl) ?_
  refine lv_iload zx zb dX6_height_25 (lv_at hl 4 rfl) ?_
  refine csI (rest := [.int (iI lat), .int (iI z), .ref (g.1 1)]) (As := [.int (iI d), .int (iI h)]) C0 hH (c_X6_skyTurn l g S d h) kw_X6_185 ky_X6_skyTurn ⟨Nat.le_of_ble_eq_true rfl, Nat.le_of_ble_eq_true rfl⟩ ⟨Nat.zero_le _, Nat.zero_le _⟩ rfl hl.1 rfl (Nat.le_of_ble_eq_true rfl) dX6_height_27 (fun H locs hH => ?_)
  refine cvI (rest := []) (As := [.int (iI z), .int (iI lat), .int (iI (15 * h + d))]) (b := g.1 1) C0 hH (c_X2_heightAt l g S z lat (15 * h + d) (by omega) (by omega) (by omega) (hC)) kw_X6_188 ky_X2_heightAt ⟨Nat.le_of_ble_eq_true rfl, Nat.le_of_ble_eq_true rfl⟩ ⟨Nat.zero_le _, Nat.zero_le _⟩ 1 rfl rfl rfl hl.1 rfl (Nat.le_of_ble_eq_true rfl) dX6_height_30 (fun H locs hH => ?_)
  exact retI C0 hret hlk hH (by rfl) (rfl) dX6_height_33
set_option maxRecDepth 100000 in
set_option maxHeartbeats 4000000 in
theorem x1_X6_height (l : Launch) (g : gT) (S : gSt) (z lat d h : Int) (hn1 : 0 ≤ S 1 0 ∧ S 1 0 ≤ 24) (hr_z : -2147483648 ≤ z ∧ z < 2147483648) (hzb : ¬(0 ≤ z ∧ z < S 1 0)) (hfl : l.stackTraces = false) : ThrG l g yX6_height cX6_height 5 (some .int) 7 106 [.ref (g.1 0), .int (iI z), .int (iI lat), .int (iI d), .int (iI h)] S "java/lang/IndexOutOfBoundsException" S := by
  refine bodyX (by decide +kernel) (Nat.le_of_ble_eq_true rfl) ?_
  intro p e s m args below meth c ls C0 htab hlk hl hH
  have zx := C0.1
  have zb := C0.2.1
  have hl : lv_has ls 5 [(0, .ref (g.1 0)), (1, .int (iI z)), (2, .int (iI lat)), (3, .int (iI d)), (4, .int (iI h))] := hl
  obtain ⟨H, hHe⟩ : ∃ H : Heap, H = s.heap := ⟨_, rfl⟩
  rw [show (Hp g S s s.heap []) = Hp g S s H [] by rw [hHe]] at hH
  rw [← hHe]
  refine lv_aload_n zx zb dX6_height_0 rfl (lv_at hl 0 rfl) ?_
  refine lv_iload_n zx zb dX6_height_1 rfl (lv_at hl 1 rfl) ?_
  exact cvX (rest := []) (As := [.int (iI z)]) (b := g.1 0) C0 htab hlk hH (x_X6_needStar l g S z (by omega) (by omega) (by omega) hfl) kw_X6_63 ky_X6_needStar ⟨Nat.le_of_ble_eq_true rfl, Nat.le_of_ble_eq_true rfl⟩ ⟨Nat.le_of_ble_eq_true rfl, Nat.le_of_ble_eq_true rfl⟩ 0 rfl rfl rfl hl.1 rfl (Nat.le_of_ble_eq_true rfl) dX6_height_2
set_option maxRecDepth 100000 in
set_option maxHeartbeats 4000000 in
theorem x2_X6_height (l : Launch) (g : gT) (S : gSt) (z lat d h : Int) (hn1 : 0 ≤ S 1 0 ∧ S 1 0 ≤ 24) (hzo : 0 ≤ z ∧ z < S 1 0) (hr_lat : -2147483648 ≤ lat ∧ lat < 2147483648) (hr_d : -2147483648 ≤ d ∧ d < 2147483648) (hr_h : -2147483648 ≤ h ∧ h < 2147483648) (hbad : ¬((-90 ≤ lat ∧ lat ≤ 90) ∧ (0 ≤ d ∧ d < 365) ∧ (0 ≤ h ∧ h < 24))) (hfl : l.stackTraces = false) : ThrG l g yX6_height cX6_height 5 (some .int) 7 105 [.ref (g.1 0), .int (iI z), .int (iI lat), .int (iI d), .int (iI h)] S "java/lang/IllegalArgumentException" S := by
  refine bodyX (by decide +kernel) (Nat.le_of_ble_eq_true rfl) ?_
  intro p e s m args below meth c ls C0 htab hlk hl hH
  have zx := C0.1
  have zb := C0.2.1
  have hl : lv_has ls 5 [(0, .ref (g.1 0)), (1, .int (iI z)), (2, .int (iI lat)), (3, .int (iI d)), (4, .int (iI h))] := hl
  obtain ⟨H, hHe⟩ : ∃ H : Heap, H = s.heap := ⟨_, rfl⟩
  rw [show (Hp g S s s.heap []) = Hp g S s H [] by rw [hHe]] at hH
  rw [← hHe]
  refine lv_aload_n zx zb dX6_height_0 rfl (lv_at hl 0 rfl) ?_
  refine lv_iload_n zx zb dX6_height_1 rfl (lv_at hl 1 rfl) ?_
  refine cvN (rest := []) (As := [.int (iI z)]) (b := g.1 0) C0 hH (c_X6_needStar l g S z (by omega) (by omega)) kw_X6_63 ky_X6_needStar ⟨Nat.le_of_ble_eq_true rfl, Nat.le_of_ble_eq_true rfl⟩ ⟨Nat.zero_le _, Nat.zero_le _⟩ 0 rfl rfl rfl hl.1 rfl (Nat.le_of_ble_eq_true rfl) dX6_height_2 (fun H locs hH => ?_)
  refine lv_iload_n zx zb dX6_height_5 rfl (lv_at hl 2 rfl) ?_
  by_cases hc6 : -90 ≤ lat ∧ lat ≤ 90
  · refine csN (rest := []) (As := [.int (iI lat)]) C0 hH (c_X6_needLatitude l g S lat (by omega)) kw_X6_176 ky_X6_needLatitude ⟨Nat.le_of_ble_eq_true rfl, Nat.le_of_ble_eq_true rfl⟩ ⟨Nat.zero_le _, Nat.zero_le _⟩ rfl hl.1 rfl (Nat.le_of_ble_eq_true rfl) dX6_height_6 (fun H locs hH => ?_)
    refine lv_iload_n zx zb dX6_height_9 rfl (lv_at hl 3 rfl) ?_
    by_cases hc10 : 0 ≤ d ∧ d < 365
    · refine csN (rest := []) (As := [.int (iI d)]) C0 hH (c_X6_needDay l g S d (by omega)) kw_X6_179 ky_X6_needDay ⟨Nat.le_of_ble_eq_true rfl, Nat.le_of_ble_eq_true rfl⟩ ⟨Nat.zero_le _, Nat.zero_le _⟩ rfl hl.1 rfl (Nat.le_of_ble_eq_true rfl) dX6_height_10 (fun H locs hH => ?_)
      refine lv_iload zx zb dX6_height_13 (lv_at hl 4 rfl) ?_
      exact csX (rest := []) (As := [.int (iI h)]) C0 htab hlk hH (x_X6_needHour l g S h (by omega) (by omega) hfl) kw_X6_182 ky_X6_needHour ⟨Nat.le_of_ble_eq_true rfl, Nat.le_of_ble_eq_true rfl⟩ ⟨Nat.le_of_ble_eq_true rfl, Nat.le_of_ble_eq_true rfl⟩ rfl hl.1 rfl (Nat.le_of_ble_eq_true rfl) dX6_height_15
    · exact csX (rest := []) (As := [.int (iI d)]) C0 htab hlk hH (x_X6_needDay l g S d (by omega) (by omega) hfl) kw_X6_179 ky_X6_needDay ⟨Nat.le_of_ble_eq_true rfl, Nat.le_of_ble_eq_true rfl⟩ ⟨Nat.le_of_ble_eq_true rfl, Nat.le_of_ble_eq_true rfl⟩ rfl hl.1 rfl (Nat.le_of_ble_eq_true rfl) dX6_height_10
  · exact csX (rest := []) (As := [.int (iI lat)]) C0 htab hlk hH (x_X6_needLatitude l g S lat (by omega) (by omega) hfl) kw_X6_176 ky_X6_needLatitude ⟨Nat.le_of_ble_eq_true rfl, Nat.le_of_ble_eq_true rfl⟩ ⟨Nat.le_of_ble_eq_true rfl, Nat.le_of_ble_eq_true rfl⟩ rfl hl.1 rfl (Nat.le_of_ble_eq_true rfl) dX6_height_6
set_option maxRecDepth 100000 in
set_option maxHeartbeats 4000000 in
theorem c_X6_isUp (l : Launch) (g : gT) (S : gSt) (f lat d h : Int) (hnf : 0 ≤ S 4 0 ∧ S 4 0 ≤ 8) (hfo : 0 ≤ f ∧ f < S 4 0) (hlat : -90 ≤ lat ∧ lat ≤ 90) (hd : 0 ≤ d ∧ d < 365) (hh : 0 ≤ h ∧ h < 24) (hN : okN (S 5)) (hE : okE (S 5) (S 6)) (hO : okE (S 5) (S 7)) (hC : okC (S 2) (S 3)) : MetG l g yX6_isUp cX6_isUp 5 (some .boolean) 6 143 [.ref (g.1 0), .int (iI f), .int (iI lat), .int (iI d), .int (iI h)] S (some (.int (iI (if upB (S 5) (S 6) (S 7) (S 2) (S 3) f lat (15 * h + d) = true then 1 else 0)))) S := by
  refine bodyG (by decide +kernel) (Nat.le_of_ble_eq_true rfl) ?_
  intro p e s m args below meth c ls C0 hret hlk hl hH
  have zx := C0.1
  have zb := C0.2.1
  have hl : lv_has ls 5 [(0, .ref (g.1 0)), (1, .int (iI f)), (2, .int (iI lat)), (3, .int (iI d)), (4, .int (iI h))] := hl
  obtain ⟨H, hHe⟩ : ∃ H : Heap, H = s.heap := ⟨_, rfl⟩
  rw [show (Hp g S s s.heap []) = Hp g S s H [] by rw [hHe]] at hH
  rw [← hHe]
  refine lv_aload_n zx zb dX6_isUp_0 rfl (lv_at hl 0 rfl) ?_
  refine lv_iload_n zx zb dX6_isUp_1 rfl (lv_at hl 1 rfl) ?_
  refine cvN (rest := []) (As := [.int (iI f)]) (b := g.1 0) C0 hH (c_X6_needFigure l g S f (by omega) (by omega)) kw_X6_94 ky_X6_needFigure ⟨Nat.le_of_ble_eq_true rfl, Nat.le_of_ble_eq_true rfl⟩ ⟨Nat.zero_le _, Nat.zero_le _⟩ 0 rfl rfl rfl hl.1 rfl (Nat.le_of_ble_eq_true rfl) dX6_isUp_2 (fun H locs hH => ?_)
  refine lv_iload_n zx zb dX6_isUp_5 rfl (lv_at hl 2 rfl) ?_
  refine csN (rest := []) (As := [.int (iI lat)]) C0 hH (c_X6_needLatitude l g S lat (by omega)) kw_X6_176 ky_X6_needLatitude ⟨Nat.le_of_ble_eq_true rfl, Nat.le_of_ble_eq_true rfl⟩ ⟨Nat.zero_le _, Nat.zero_le _⟩ rfl hl.1 rfl (Nat.le_of_ble_eq_true rfl) dX6_isUp_6 (fun H locs hH => ?_)
  refine lv_iload_n zx zb dX6_isUp_9 rfl (lv_at hl 3 rfl) ?_
  refine csN (rest := []) (As := [.int (iI d)]) C0 hH (c_X6_needDay l g S d (by omega)) kw_X6_179 ky_X6_needDay ⟨Nat.le_of_ble_eq_true rfl, Nat.le_of_ble_eq_true rfl⟩ ⟨Nat.zero_le _, Nat.zero_le _⟩ rfl hl.1 rfl (Nat.le_of_ble_eq_true rfl) dX6_isUp_10 (fun H locs hH => ?_)
  refine lv_iload zx zb dX6_isUp_13 (lv_at hl 4 rfl) ?_
  refine csN (rest := []) (As := [.int (iI h)]) C0 hH (c_X6_needHour l g S h (by omega)) kw_X6_182 ky_X6_needHour ⟨Nat.le_of_ble_eq_true rfl, Nat.le_of_ble_eq_true rfl⟩ ⟨Nat.zero_le _, Nat.zero_le _⟩ rfl hl.1 rfl (Nat.le_of_ble_eq_true rfl) dX6_isUp_15 (fun H locs hH => ?_)
  refine lv_aload_n zx zb dX6_isUp_18 rfl (lv_at hl 0 rfl) ?_
  refine lv_iload_n zx zb dX6_isUp_19 rfl (lv_at hl 1 rfl) ?_
  refine lv_iload_n zx zb dX6_isUp_20 rfl (lv_at hl 2 rfl) ?_
  refine lv_iload_n zx zb dX6_isUp_21 rfl (lv_at hl 3 rfl) ?_
  refine lv_iload zx zb dX6_isUp_22 (lv_at hl 4 rfl) ?_
  refine csI (rest := [.int (iI lat), .int (iI f), .ref (g.1 0)]) (As := [.int (iI d), .int (iI h)]) C0 hH (c_X6_skyTurn l g S d h) kw_X6_185 ky_X6_skyTurn ⟨Nat.le_of_ble_eq_true rfl, Nat.le_of_ble_eq_true rfl⟩ ⟨Nat.zero_le _, Nat.zero_le _⟩ rfl hl.1 rfl (Nat.le_of_ble_eq_true rfl) dX6_isUp_24 (fun H locs hH => ?_)
  refine cvI (rest := []) (As := [.int (iI f), .int (iI lat), .int (iI (15 * h + d))]) (b := g.1 0) C0 hH (c_X6_figureIsUp l g S f lat (15 * h + d) (by omega) (by omega) (by omega) (hN) (hE) (hO) (hC)) kw_X6_191 ky_X6_figureIsUp ⟨Nat.le_of_ble_eq_true rfl, Nat.le_of_ble_eq_true rfl⟩ ⟨Nat.zero_le _, Nat.zero_le _⟩ 0 rfl rfl rfl hl.1 rfl (Nat.le_of_ble_eq_true rfl) dX6_isUp_27 (fun H locs hH => ?_)
  exact retZ C0 hret hlk hH (by rfl) (by exact bI_b _) (rfl) dX6_isUp_30
set_option maxRecDepth 100000 in
set_option maxHeartbeats 4000000 in
theorem x1_X6_isUp (l : Launch) (g : gT) (S : gSt) (f lat d h : Int) (hnf : 0 ≤ S 4 0 ∧ S 4 0 ≤ 8) (hr_f : -2147483648 ≤ f ∧ f < 2147483648) (hfb : ¬(0 ≤ f ∧ f < S 4 0)) (hfl : l.stackTraces = false) : ThrG l g yX6_isUp cX6_isUp 5 (some .boolean) 7 106 [.ref (g.1 0), .int (iI f), .int (iI lat), .int (iI d), .int (iI h)] S "java/lang/IndexOutOfBoundsException" S := by
  refine bodyX (by decide +kernel) (Nat.le_of_ble_eq_true rfl) ?_
  intro p e s m args below meth c ls C0 htab hlk hl hH
  have zx := C0.1
  have zb := C0.2.1
  have hl : lv_has ls 5 [(0, .ref (g.1 0)), (1, .int (iI f)), (2, .int (iI lat)), (3, .int (iI d)), (4, .int (iI h))] := hl
  obtain ⟨H, hHe⟩ : ∃ H : Heap, H = s.heap := ⟨_, rfl⟩
  rw [show (Hp g S s s.heap []) = Hp g S s H [] by rw [hHe]] at hH
  rw [← hHe]
  refine lv_aload_n zx zb dX6_isUp_0 rfl (lv_at hl 0 rfl) ?_
  refine lv_iload_n zx zb dX6_isUp_1 rfl (lv_at hl 1 rfl) ?_
  exact cvX (rest := []) (As := [.int (iI f)]) (b := g.1 0) C0 htab hlk hH (x_X6_needFigure l g S f (by omega) (by omega) (by omega) hfl) kw_X6_94 ky_X6_needFigure ⟨Nat.le_of_ble_eq_true rfl, Nat.le_of_ble_eq_true rfl⟩ ⟨Nat.le_of_ble_eq_true rfl, Nat.le_of_ble_eq_true rfl⟩ 0 rfl rfl rfl hl.1 rfl (Nat.le_of_ble_eq_true rfl) dX6_isUp_2
set_option maxRecDepth 100000 in
set_option maxHeartbeats 4000000 in
theorem x2_X6_isUp (l : Launch) (g : gT) (S : gSt) (f lat d h : Int) (hnf : 0 ≤ S 4 0 ∧ S 4 0 ≤ 8) (hfo : 0 ≤ f ∧ f < S 4 0) (hr_lat : -2147483648 ≤ lat ∧ lat < 2147483648) (hr_d : -2147483648 ≤ d ∧ d < 2147483648) (hr_h : -2147483648 ≤ h ∧ h < 2147483648) (hbad : ¬((-90 ≤ lat ∧ lat ≤ 90) ∧ (0 ≤ d ∧ d < 365) ∧ (0 ≤ h ∧ h < 24))) (hfl : l.stackTraces = false) : ThrG l g yX6_isUp cX6_isUp 5 (some .boolean) 7 105 [.ref (g.1 0), .int (iI f), .int (iI lat), .int (iI d), .int (iI h)] S "java/lang/IllegalArgumentException" S := by
  refine bodyX (by decide +kernel) (Nat.le_of_ble_eq_true rfl) ?_
  intro p e s m args below meth c ls C0 htab hlk hl hH
  have zx := C0.1
  have zb := C0.2.1
  have hl : lv_has ls 5 [(0, .ref (g.1 0)), (1, .int (iI f)), (2, .int (iI lat)), (3, .int (iI d)), (4, .int (iI h))] := hl
  obtain ⟨H, hHe⟩ : ∃ H : Heap, H = s.heap := ⟨_, rfl⟩
  rw [show (Hp g S s s.heap []) = Hp g S s H [] by rw [hHe]] at hH
  rw [← hHe]
  refine lv_aload_n zx zb dX6_isUp_0 rfl (lv_at hl 0 rfl) ?_
  refine lv_iload_n zx zb dX6_isUp_1 rfl (lv_at hl 1 rfl) ?_
  refine cvN (rest := []) (As := [.int (iI f)]) (b := g.1 0) C0 hH (c_X6_needFigure l g S f (by omega) (by omega)) kw_X6_94 ky_X6_needFigure ⟨Nat.le_of_ble_eq_true rfl, Nat.le_of_ble_eq_true rfl⟩ ⟨Nat.zero_le _, Nat.zero_le _⟩ 0 rfl rfl rfl hl.1 rfl (Nat.le_of_ble_eq_true rfl) dX6_isUp_2 (fun H locs hH => ?_)
  refine lv_iload_n zx zb dX6_isUp_5 rfl (lv_at hl 2 rfl) ?_
  by_cases hc6 : -90 ≤ lat ∧ lat ≤ 90
  · refine csN (rest := []) (As := [.int (iI lat)]) C0 hH (c_X6_needLatitude l g S lat (by omega)) kw_X6_176 ky_X6_needLatitude ⟨Nat.le_of_ble_eq_true rfl, Nat.le_of_ble_eq_true rfl⟩ ⟨Nat.zero_le _, Nat.zero_le _⟩ rfl hl.1 rfl (Nat.le_of_ble_eq_true rfl) dX6_isUp_6 (fun H locs hH => ?_)
    refine lv_iload_n zx zb dX6_isUp_9 rfl (lv_at hl 3 rfl) ?_
    by_cases hc10 : 0 ≤ d ∧ d < 365
    · refine csN (rest := []) (As := [.int (iI d)]) C0 hH (c_X6_needDay l g S d (by omega)) kw_X6_179 ky_X6_needDay ⟨Nat.le_of_ble_eq_true rfl, Nat.le_of_ble_eq_true rfl⟩ ⟨Nat.zero_le _, Nat.zero_le _⟩ rfl hl.1 rfl (Nat.le_of_ble_eq_true rfl) dX6_isUp_10 (fun H locs hH => ?_)
      refine lv_iload zx zb dX6_isUp_13 (lv_at hl 4 rfl) ?_
      exact csX (rest := []) (As := [.int (iI h)]) C0 htab hlk hH (x_X6_needHour l g S h (by omega) (by omega) hfl) kw_X6_182 ky_X6_needHour ⟨Nat.le_of_ble_eq_true rfl, Nat.le_of_ble_eq_true rfl⟩ ⟨Nat.le_of_ble_eq_true rfl, Nat.le_of_ble_eq_true rfl⟩ rfl hl.1 rfl (Nat.le_of_ble_eq_true rfl) dX6_isUp_15
    · exact csX (rest := []) (As := [.int (iI d)]) C0 htab hlk hH (x_X6_needDay l g S d (by omega) (by omega) hfl) kw_X6_179 ky_X6_needDay ⟨Nat.le_of_ble_eq_true rfl, Nat.le_of_ble_eq_true rfl⟩ ⟨Nat.le_of_ble_eq_true rfl, Nat.le_of_ble_eq_true rfl⟩ rfl hl.1 rfl (Nat.le_of_ble_eq_true rfl) dX6_isUp_10
  · exact csX (rest := []) (As := [.int (iI lat)]) C0 htab hlk hH (x_X6_needLatitude l g S lat (by omega) (by omega) hfl) kw_X6_176 ky_X6_needLatitude ⟨Nat.le_of_ble_eq_true rfl, Nat.le_of_ble_eq_true rfl⟩ ⟨Nat.le_of_ble_eq_true rfl, Nat.le_of_ble_eq_true rfl⟩ rfl hl.1 rfl (Nat.le_of_ble_eq_true rfl) dX6_isUp_6
set_option maxRecDepth 100000 in
set_option maxHeartbeats 4000000 in
theorem c_X6_hours (l : Launch) (g : gT) (S : gSt) (f lat d : Int) (hnf : 0 ≤ S 4 0 ∧ S 4 0 ≤ 8) (hfo : 0 ≤ f ∧ f < S 4 0) (hlat : -90 ≤ lat ∧ lat ≤ 90) (hd : 0 ≤ d ∧ d < 365) (hN : okN (S 5)) (hE : okE (S 5) (S 6)) (hO : okE (S 5) (S 7)) (hC : okC (S 2) (S 3)) : MetG l g yX6_hours cX6_hours 6 (some .int) 6 143 [.ref (g.1 0), .int (iI f), .int (iI lat), .int (iI d)] S (some (.int (iI ((dyN (fun h => upB (S 5) (S 6) (S 7) (S 2) (S 3) f lat (15 * h + d)) : Nat) : Int)))) S := by
  refine bodyG (by decide +kernel) (Nat.le_of_ble_eq_true rfl) ?_
  intro p e s m args below meth c ls C0 hret hlk hl hH
  have zx := C0.1
  have zb := C0.2.1
  have hl : lv_has ls 6 [(0, .ref (g.1 0)), (1, .int (iI f)), (2, .int (iI lat)), (3, .int (iI d))] := hl
  have L19 : ∀ (μ : Nat) (i : Int) (k : Nat), (24 - i).toNat = μ → (0 ≤ i ∧ i ≤ 24) → (dyN (fun h => upB (S 5) (S 6) (S 7) (S 2) (S 3) f lat (15 * h + d)) = lpF (dyQ (fun h => upB (S 5) (S 6) (S 7) (S 2) (S 3) f lat (15 * h + d))) (24 - i).toNat i k) → ∀ (H : Heap) (locs : List Loc), Hp g S s H locs → ∀ ls : Array Slot, lv_has ls 6 [(0, .ref (g.1 0)), (1, .int (iI f)), (2, .int (iI lat)), (3, .int (iI d)), (4, .int (iI ((k : Nat) : Int))), (5, .int (iI i))] → W p l e { frames := 6, cells := 0, slots := 0, locals := 143 } s m args below meth c H locs 0 0 (MQ below (RetG g (some (.int (iI ((dyN (fun h => upB (S 5) (S 6) (S 7) (S 2) (S 3) f lat (15 * h + d)) : Nat) : Int)))) S) args s 0 0 (oA g)) (F0 m 19 ls []) := by
    refine lpN (fun μ19 ih19 => ?_)
    intro i k hμ19 hi hR H locs hH ls hl
    refine lv_iload zx zb dX6_hours_19 (lv_at hl 5 rfl) ?_
    refine bi_bip (n := 24) zx zb dX6_hours_21 (by decide) ?_
    refine bq_ge (tgt := 56) zx zb dX6_hours_23 (by decide) ⟨by omega, by omega⟩ ⟨by omega, by omega⟩ (fun zq23 => ?_) (fun zq23 => ?_)
    · refine lv_iload zx zb dX6_hours_56 (lv_at hl 4 rfl) ?_
      exact retI C0 hret hlk hH (by rw [hR, lpF_e zq23]) (rfl) dX6_hours_58
    · refine lv_aload_n zx zb dX6_hours_26 rfl (lv_at hl 0 rfl) ?_
      refine lv_iload_n zx zb dX6_hours_27 rfl (lv_at hl 1 rfl) ?_
      refine lv_iload_n zx zb dX6_hours_28 rfl (lv_at hl 2 rfl) ?_
      refine lv_iload_n zx zb dX6_hours_29 rfl (lv_at hl 3 rfl) ?_
      refine lv_iload zx zb dX6_hours_30 (lv_at hl 5 rfl) ?_
      refine csI (rest := [.int (iI lat), .int (iI f), .ref (g.1 0)]) (As := [.int (iI d), .int (iI i)]) C0 hH (c_X6_skyTurn l g S d i) kw_X6_185 ky_X6_skyTurn ⟨Nat.le_of_ble_eq_true rfl, Nat.le_of_ble_eq_true rfl⟩ ⟨Nat.zero_le _, Nat.zero_le _⟩ rfl hl.1 rfl (Nat.le_of_ble_eq_true rfl) dX6_hours_32 (fun H locs hH => ?_)
      refine cvI (rest := []) (As := [.int (iI f), .int (iI lat), .int (iI (15 * i + d))]) (b := g.1 0) C0 hH (c_X6_figureIsUp l g S f lat (15 * i + d) (by omega) (by omega) (by omega) (hN) (hE) (hO) (hC)) kw_X6_191 ky_X6_figureIsUp ⟨Nat.le_of_ble_eq_true rfl, Nat.le_of_ble_eq_true rfl⟩ ⟨Nat.zero_le _, Nat.zero_le _⟩ 0 rfl rfl rfl hl.1 rfl (Nat.le_of_ble_eq_true rfl) dX6_hours_35 (fun H locs hH => ?_)
      have hb38 := brg (upB (S 5) (S 6) (S 7) (S 2) (S 3) f lat (15 * i + d))
      refine bz_eq (tgt := 50) zx zb dX6_hours_38 (by decide) ⟨by omega, by omega⟩ (fun zq38 => ?_) (fun zq38 => ?_)
      · refine bi_inc (k0 := 5) (n := 1) (lv' := [(5, .int (iI (i + 1))), (0, .ref (g.1 0)), (1, .int (iI f)), (2, .int (iI lat)), (3, .int (iI d)), (4, .int (iI ((k : Nat) : Int)))]) zx zb dX6_hours_50 hl rfl (by decide) rfl (fun ls hl => ?_)
        refine lv_goto (tgt := 19) zx zb dX6_hours_53 (by decide) ?_
        exact ih19 ((24 - (i + 1)).toNat) (by omega) (i + 1) k rfl (by omega) (by first | (rw [hR, lpF_s zq23, show dyQ (fun h => upB (S 5) (S 6) (S 7) (S 2) (S 3) f lat (15 * h + d)) i k = k from dyQ_0 (b0 zq38)]; done) | (rw [hR, lpF_s zq23, show dyQ (fun h => upB (S 5) (S 6) (S 7) (S 2) (S 3) f lat (15 * h + d)) i k = k ||| 2 ^ i.toNat from dyQ_1 (b1 zq38)]; done)) _ _ hH ls (lv_sub hl [1, 2, 3, 4, 5, 0] rfl)
      · refine lv_iload zx zb dX6_hours_41 (lv_at hl 4 rfl) ?_
        refine bi_const (n := 1) zx zb dX6_hours_43 ?_
        refine lv_iload zx zb dX6_hours_44 (lv_at hl 5 rfl) ?_
        refine bi_shl zx zb dX6_hours_46 (by omega) (by omega) ?_
        refine bi_or (a := k) (b := 2 ^ i.toNat) zx zb dX6_hours_47 ?_
        refine lv_istore (lv' := [(4, .int (iI ((k ||| (2 ^ i.toNat) : Nat) : Int))), (0, .ref (g.1 0)), (1, .int (iI f)), (2, .int (iI lat)), (3, .int (iI d)), (5, .int (iI i))]) zx zb dX6_hours_48 hl (by decide) rfl (fun ls hl => ?_)
        refine bi_inc (k0 := 5) (n := 1) (lv' := [(5, .int (iI (i + 1))), (4, .int (iI ((k ||| (2 ^ i.toNat) : Nat) : Int))), (0, .ref (g.1 0)), (1, .int (iI f)), (2, .int (iI lat)), (3, .int (iI d))]) zx zb dX6_hours_50 hl rfl (by decide) rfl (fun ls hl => ?_)
        refine lv_goto (tgt := 19) zx zb dX6_hours_53 (by decide) ?_
        exact ih19 ((24 - (i + 1)).toNat) (by omega) (i + 1) (k ||| (2 ^ i.toNat)) rfl (by omega) (by first | (rw [hR, lpF_s zq23, show dyQ (fun h => upB (S 5) (S 6) (S 7) (S 2) (S 3) f lat (15 * h + d)) i k = k from dyQ_0 (b0 zq38)]; done) | (rw [hR, lpF_s zq23, show dyQ (fun h => upB (S 5) (S 6) (S 7) (S 2) (S 3) f lat (15 * h + d)) i k = k ||| 2 ^ i.toNat from dyQ_1 (b1 zq38)]; done)) _ _ hH ls (lv_sub hl [2, 3, 4, 5, 1, 0] rfl)
  obtain ⟨H, hHe⟩ : ∃ H : Heap, H = s.heap := ⟨_, rfl⟩
  rw [show (Hp g S s s.heap []) = Hp g S s H [] by rw [hHe]] at hH
  rw [← hHe]
  refine lv_aload_n zx zb dX6_hours_0 rfl (lv_at hl 0 rfl) ?_
  refine lv_iload_n zx zb dX6_hours_1 rfl (lv_at hl 1 rfl) ?_
  refine cvN (rest := []) (As := [.int (iI f)]) (b := g.1 0) C0 hH (c_X6_needFigure l g S f (by omega) (by omega)) kw_X6_94 ky_X6_needFigure ⟨Nat.le_of_ble_eq_true rfl, Nat.le_of_ble_eq_true rfl⟩ ⟨Nat.zero_le _, Nat.zero_le _⟩ 0 rfl rfl rfl hl.1 rfl (Nat.le_of_ble_eq_true rfl) dX6_hours_2 (fun H locs hH => ?_)
  refine lv_iload_n zx zb dX6_hours_5 rfl (lv_at hl 2 rfl) ?_
  refine csN (rest := []) (As := [.int (iI lat)]) C0 hH (c_X6_needLatitude l g S lat (by omega)) kw_X6_176 ky_X6_needLatitude ⟨Nat.le_of_ble_eq_true rfl, Nat.le_of_ble_eq_true rfl⟩ ⟨Nat.zero_le _, Nat.zero_le _⟩ rfl hl.1 rfl (Nat.le_of_ble_eq_true rfl) dX6_hours_6 (fun H locs hH => ?_)
  refine lv_iload_n zx zb dX6_hours_9 rfl (lv_at hl 3 rfl) ?_
  refine csN (rest := []) (As := [.int (iI d)]) C0 hH (c_X6_needDay l g S d (by omega)) kw_X6_179 ky_X6_needDay ⟨Nat.le_of_ble_eq_true rfl, Nat.le_of_ble_eq_true rfl⟩ ⟨Nat.zero_le _, Nat.zero_le _⟩ rfl hl.1 rfl (Nat.le_of_ble_eq_true rfl) dX6_hours_10 (fun H locs hH => ?_)
  refine bi_const (n := 0) zx zb dX6_hours_13 ?_
  refine lv_istore (lv' := [(4, .int (iI 0)), (0, .ref (g.1 0)), (1, .int (iI f)), (2, .int (iI lat)), (3, .int (iI d))]) zx zb dX6_hours_14 hl (by decide) rfl (fun ls hl => ?_)
  refine bi_const (n := 0) zx zb dX6_hours_16 ?_
  refine lv_istore (lv' := [(5, .int (iI 0)), (4, .int (iI 0)), (0, .ref (g.1 0)), (1, .int (iI f)), (2, .int (iI lat)), (3, .int (iI d))]) zx zb dX6_hours_17 hl (by decide) rfl (fun ls hl => ?_)
  exact L19 _ 0 0 rfl (by omega) (by unfold dyN; rw [Int.sub_zero]) _ _ hH ls (lv_sub hl [2, 3, 4, 5, 1, 0] rfl)
set_option maxRecDepth 100000 in
set_option maxHeartbeats 4000000 in
theorem x1_X6_hours (l : Launch) (g : gT) (S : gSt) (f lat d : Int) (hnf : 0 ≤ S 4 0 ∧ S 4 0 ≤ 8) (hr_f : -2147483648 ≤ f ∧ f < 2147483648) (hfb : ¬(0 ≤ f ∧ f < S 4 0)) (hfl : l.stackTraces = false) : ThrG l g yX6_hours cX6_hours 6 (some .int) 7 106 [.ref (g.1 0), .int (iI f), .int (iI lat), .int (iI d)] S "java/lang/IndexOutOfBoundsException" S := by
  refine bodyX (by decide +kernel) (Nat.le_of_ble_eq_true rfl) ?_
  intro p e s m args below meth c ls C0 htab hlk hl hH
  have zx := C0.1
  have zb := C0.2.1
  have hl : lv_has ls 6 [(0, .ref (g.1 0)), (1, .int (iI f)), (2, .int (iI lat)), (3, .int (iI d))] := hl
  obtain ⟨H, hHe⟩ : ∃ H : Heap, H = s.heap := ⟨_, rfl⟩
  rw [show (Hp g S s s.heap []) = Hp g S s H [] by rw [hHe]] at hH
  rw [← hHe]
  refine lv_aload_n zx zb dX6_hours_0 rfl (lv_at hl 0 rfl) ?_
  refine lv_iload_n zx zb dX6_hours_1 rfl (lv_at hl 1 rfl) ?_
  exact cvX (rest := []) (As := [.int (iI f)]) (b := g.1 0) C0 htab hlk hH (x_X6_needFigure l g S f (by omega) (by omega) (by omega) hfl) kw_X6_94 ky_X6_needFigure ⟨Nat.le_of_ble_eq_true rfl, Nat.le_of_ble_eq_true rfl⟩ ⟨Nat.le_of_ble_eq_true rfl, Nat.le_of_ble_eq_true rfl⟩ 0 rfl rfl rfl hl.1 rfl (Nat.le_of_ble_eq_true rfl) dX6_hours_2
set_option maxRecDepth 100000 in
set_option maxHeartbeats 4000000 in
theorem x2_X6_hours (l : Launch) (g : gT) (S : gSt) (f lat d : Int) (hnf : 0 ≤ S 4 0 ∧ S 4 0 ≤ 8) (hfo : 0 ≤ f ∧ f < S 4 0) (hr_lat : -2147483648 ≤ lat ∧ lat < 2147483648) (hr_d : -2147483648 ≤ d ∧ d < 2147483648) (hbad : ¬((-90 ≤ lat ∧ lat ≤ 90) ∧ (0 ≤ d ∧ d < 365))) (hfl : l.stackTraces = false) : ThrG l g yX6_hours cX6_hours 6 (some .int) 7 105 [.ref (g.1 0), .int (iI f), .int (iI lat), .int (iI d)] S "java/lang/IllegalArgumentException" S := by
  refine bodyX (by decide +kernel) (Nat.le_of_ble_eq_true rfl) ?_
  intro p e s m args below meth c ls C0 htab hlk hl hH
  have zx := C0.1
  have zb := C0.2.1
  have hl : lv_has ls 6 [(0, .ref (g.1 0)), (1, .int (iI f)), (2, .int (iI lat)), (3, .int (iI d))] := hl
  obtain ⟨H, hHe⟩ : ∃ H : Heap, H = s.heap := ⟨_, rfl⟩
  rw [show (Hp g S s s.heap []) = Hp g S s H [] by rw [hHe]] at hH
  rw [← hHe]
  refine lv_aload_n zx zb dX6_hours_0 rfl (lv_at hl 0 rfl) ?_
  refine lv_iload_n zx zb dX6_hours_1 rfl (lv_at hl 1 rfl) ?_
  refine cvN (rest := []) (As := [.int (iI f)]) (b := g.1 0) C0 hH (c_X6_needFigure l g S f (by omega) (by omega)) kw_X6_94 ky_X6_needFigure ⟨Nat.le_of_ble_eq_true rfl, Nat.le_of_ble_eq_true rfl⟩ ⟨Nat.zero_le _, Nat.zero_le _⟩ 0 rfl rfl rfl hl.1 rfl (Nat.le_of_ble_eq_true rfl) dX6_hours_2 (fun H locs hH => ?_)
  refine lv_iload_n zx zb dX6_hours_5 rfl (lv_at hl 2 rfl) ?_
  by_cases hc6 : -90 ≤ lat ∧ lat ≤ 90
  · refine csN (rest := []) (As := [.int (iI lat)]) C0 hH (c_X6_needLatitude l g S lat (by omega)) kw_X6_176 ky_X6_needLatitude ⟨Nat.le_of_ble_eq_true rfl, Nat.le_of_ble_eq_true rfl⟩ ⟨Nat.zero_le _, Nat.zero_le _⟩ rfl hl.1 rfl (Nat.le_of_ble_eq_true rfl) dX6_hours_6 (fun H locs hH => ?_)
    refine lv_iload_n zx zb dX6_hours_9 rfl (lv_at hl 3 rfl) ?_
    exact csX (rest := []) (As := [.int (iI d)]) C0 htab hlk hH (x_X6_needDay l g S d (by omega) (by omega) hfl) kw_X6_179 ky_X6_needDay ⟨Nat.le_of_ble_eq_true rfl, Nat.le_of_ble_eq_true rfl⟩ ⟨Nat.le_of_ble_eq_true rfl, Nat.le_of_ble_eq_true rfl⟩ rfl hl.1 rfl (Nat.le_of_ble_eq_true rfl) dX6_hours_10
  · exact csX (rest := []) (As := [.int (iI lat)]) C0 htab hlk hH (x_X6_needLatitude l g S lat (by omega) (by omega) hfl) kw_X6_176 ky_X6_needLatitude ⟨Nat.le_of_ble_eq_true rfl, Nat.le_of_ble_eq_true rfl⟩ ⟨Nat.le_of_ble_eq_true rfl, Nat.le_of_ble_eq_true rfl⟩ rfl hl.1 rfl (Nat.le_of_ble_eq_true rfl) dX6_hours_6
set_option maxRecDepth 100000 in
set_option maxHeartbeats 4000000 in
theorem c_X6_hoursByStars (l : Launch) (g : gT) (S : gSt) (f lat d : Int) (hnf : 0 ≤ S 4 0 ∧ S 4 0 ≤ 8) (hfo : 0 ≤ f ∧ f < S 4 0) (hlat : -90 ≤ lat ∧ lat ≤ 90) (hd : 0 ≤ d ∧ d < 365) (hN : okN (S 5)) (hE : okE (S 5) (S 6)) (hO : okE (S 5) (S 7)) (hC : okC (S 2) (S 3)) : MetG l g yX6_hoursByStars cX6_hoursByStars 8 (some .int) 5 118 [.ref (g.1 0), .int (iI f), .int (iI lat), .int (iI d)] S (some (.int (iI ((hbN (S 5) (S 6) (S 7) (S 2) (S 3) f lat d : Nat) : Int)))) S := by
  refine bodyG (by decide +kernel) (Nat.le_of_ble_eq_true rfl) ?_
  intro p e s m args below meth c ls C0 hret hlk hl hH
  have zx := C0.1
  have zb := C0.2.1
  have hl : lv_has ls 8 [(0, .ref (g.1 0)), (1, .int (iI f)), (2, .int (iI lat)), (3, .int (iI d))] := hl
  have L40 : ∀ (μ : Nat) (i : Int) (k : Nat), (S 5 f - i).toNat = μ → (0 ≤ i ∧ i ≤ S 5 f) → (hbN (S 5) (S 6) (S 7) (S 2) (S 3) f lat d = lpF (hbQ (S 5) (S 6) (S 7) (S 2) (S 3) lat d) (S 5 f - i).toNat (10 * f + i) k) → ∀ (H : Heap) (locs : List Loc), Hp g S s H locs → ∀ ls : Array Slot, lv_has ls 8 [(0, .ref (g.1 0)), (1, .int (iI f)), (2, .int (iI lat)), (3, .int (iI d)), (4, .int (iI (S 5 f))), (5, .int (iI ((k : Nat) : Int))), (6, .int (iI i))] → W p l e { frames := 5, cells := 0, slots := 0, locals := 118 } s m args below meth c H locs 0 0 (MQ below (RetG g (some (.int (iI ((hbN (S 5) (S 6) (S 7) (S 2) (S 3) f lat d : Nat) : Int)))) S) args s 0 0 (oA g)) (F0 m 40 ls []) := by
    refine lpN (fun μ40 ih40 => ?_)
    intro i k hμ40 hi hR H locs hH ls hl
    have hn := hN f (by omega) (by omega)
    refine lv_iload zx zb dX6_hoursByStars_40 (lv_at hl 6 rfl) ?_
    refine lv_iload zx zb dX6_hoursByStars_42 (lv_at hl 4 rfl) ?_
    refine bq_ge (tgt := 103) zx zb dX6_hoursByStars_44 (by decide) ⟨by omega, by omega⟩ ⟨by omega, by omega⟩ (fun zq44 => ?_) (fun zq44 => ?_)
    · refine lv_iload zx zb dX6_hoursByStars_103 (lv_at hl 5 rfl) ?_
      exact retI C0 hret hlk hH (by rw [hR, lpF_e2 zq44]) (rfl) dX6_hoursByStars_105
    · have he := hE f i (by omega) (by omega) (by omega) (by omega)
      have ho := hO f i (by omega) (by omega) (by omega) (by omega)
      refine lv_iload_n zx zb dX6_hoursByStars_47 rfl (lv_at hl 1 rfl) ?_
      refine lv_iload zx zb dX6_hoursByStars_48 (lv_at hl 6 rfl) ?_
      refine csI (rest := []) (As := [.int (iI f), .int (iI i)]) C0 hH (c_X5_place l g S f i) kw_X6_128 ky_X5_place ⟨Nat.le_of_ble_eq_true rfl, Nat.le_of_ble_eq_true rfl⟩ ⟨Nat.zero_le _, Nat.zero_le _⟩ rfl hl.1 rfl (Nat.le_of_ble_eq_true rfl) dX6_hoursByStars_50 (fun H locs hH => ?_)
      refine lv_istore (lv' := [(7, .int (iI (10 * f + i))), (0, .ref (g.1 0)), (1, .int (iI f)), (2, .int (iI lat)), (3, .int (iI d)), (4, .int (iI (S 5 f))), (5, .int (iI ((k : Nat) : Int))), (6, .int (iI i))]) zx zb dX6_hoursByStars_53 hl (by decide) rfl (fun ls hl => ?_)
      refine lv_iload zx zb dX6_hoursByStars_55 (lv_at hl 6 rfl) ?_
      refine lv_aload_n zx zb dX6_hoursByStars_57 rfl (lv_at hl 1 rfl) ?_
      refine lv_aload_n zx zb dX6_hoursByStars_58 rfl (lv_at hl 1 rfl) ?_
      refine gf_X6_19 C0 hH dX6_hoursByStars_59 ?_
      refine gf_X6_131 C0 hH dX6_hoursByStars_62 ?_
      refine lv_iload zx zb dX6_hoursByStars_65 (lv_at hl 0 rfl) ?_
      refine al_6 C0 hH (by omega) (by omega) dX6_hoursByStars_67 ?_
      refine lv_iload_n zx zb dX6_hoursByStars_68 rfl (lv_at hl 3 rfl) ?_
      refine lv_iload_n zx zb dX6_hoursByStars_69 rfl (lv_at hl 4 rfl) ?_
      refine cvI (rest := [.int (iI ((k : Nat) : Int))]) (As := [.int (iI (S 6 (10 * f + i))), .int (iI lat), .int (iI d)]) (b := g.1 0) C0 hH (c_X6_hoursOfStar l g S (S 6 (10 * f + i)) lat d (by omega) (by omega) (by omega) (hC)) kw_X6_195 ky_X6_hoursOfStar ⟨Nat.le_of_ble_eq_true rfl, Nat.le_of_ble_eq_true rfl⟩ ⟨Nat.zero_le _, Nat.zero_le _⟩ 0 rfl rfl rfl hl.1 rfl (Nat.le_of_ble_eq_true rfl) dX6_hoursByStars_70 (fun H locs hH => ?_)
      refine bi_and (a := k) (b := hsN (S 2) (S 3) (S 6 (10 * f + i)) lat d) zx zb dX6_hoursByStars_73 ?_
      refine lv_istore (lv' := [(5, .int (iI ((k &&& (hsN (S 2) (S 3) (S 6 (10 * f + i)) lat d) : Nat) : Int))), (7, .int (iI (10 * f + i))), (0, .ref (g.1 0)), (1, .int (iI f)), (2, .int (iI lat)), (3, .int (iI d)), (4, .int (iI (S 5 f))), (6, .int (iI i))]) zx zb dX6_hoursByStars_74 hl (by decide) rfl (fun ls hl => ?_)
      refine lv_iload zx zb dX6_hoursByStars_76 (lv_at hl 0 rfl) ?_
      refine lv_aload_n zx zb dX6_hoursByStars_78 rfl (lv_at hl 2 rfl) ?_
      refine lv_aload_n zx zb dX6_hoursByStars_79 rfl (lv_at hl 2 rfl) ?_
      refine gf_X6_19 C0 hH dX6_hoursByStars_80 ?_
      refine gf_X6_134 C0 hH dX6_hoursByStars_83 ?_
      refine lv_iload zx zb dX6_hoursByStars_86 (lv_at hl 1 rfl) ?_
      refine al_7 C0 hH (by omega) (by omega) dX6_hoursByStars_88 ?_
      refine lv_iload_n zx zb dX6_hoursByStars_89 rfl (lv_at hl 4 rfl) ?_
      refine lv_iload_n zx zb dX6_hoursByStars_90 rfl (lv_at hl 5 rfl) ?_
      refine cvI (rest := [.int (iI ((k &&& (hsN (S 2) (S 3) (S 6 (10 * f + i)) lat d) : Nat) : Int))]) (As := [.int (iI (S 7 (10 * f + i))), .int (iI lat), .int (iI d)]) (b := g.1 0) C0 hH (c_X6_hoursOfStar l g S (S 7 (10 * f + i)) lat d (by omega) (by omega) (by omega) (hC)) kw_X6_195 ky_X6_hoursOfStar ⟨Nat.le_of_ble_eq_true rfl, Nat.le_of_ble_eq_true rfl⟩ ⟨Nat.zero_le _, Nat.zero_le _⟩ 0 rfl rfl rfl hl.1 rfl (Nat.le_of_ble_eq_true rfl) dX6_hoursByStars_91 (fun H locs hH => ?_)
      refine bi_and (a := k &&& (hsN (S 2) (S 3) (S 6 (10 * f + i)) lat d)) (b := hsN (S 2) (S 3) (S 7 (10 * f + i)) lat d) zx zb dX6_hoursByStars_94 ?_
      refine lv_istore (lv' := [(5, .int (iI (((k &&& (hsN (S 2) (S 3) (S 6 (10 * f + i)) lat d)) &&& (hsN (S 2) (S 3) (S 7 (10 * f + i)) lat d) : Nat) : Int))), (7, .int (iI (10 * f + i))), (0, .ref (g.1 0)), (1, .int (iI f)), (2, .int (iI lat)), (3, .int (iI d)), (4, .int (iI (S 5 f))), (6, .int (iI i))]) zx zb dX6_hoursByStars_95 hl (by decide) rfl (fun ls hl => ?_)
      refine bi_inc (k0 := 7) (n := 1) (lv' := [(6, .int (iI (i + 1))), (5, .int (iI (((k &&& (hsN (S 2) (S 3) (S 6 (10 * f + i)) lat d)) &&& (hsN (S 2) (S 3) (S 7 (10 * f + i)) lat d) : Nat) : Int))), (7, .int (iI (10 * f + i))), (0, .ref (g.1 0)), (1, .int (iI f)), (2, .int (iI lat)), (3, .int (iI d)), (4, .int (iI (S 5 f)))]) zx zb dX6_hoursByStars_97 hl rfl (by decide) rfl (fun ls hl => ?_)
      refine lv_goto (tgt := 40) zx zb dX6_hoursByStars_100 (by decide) ?_
      exact ih40 ((S 5 f - (i + 1)).toNat) (by omega) (i + 1) ((k &&& (hsN (S 2) (S 3) (S 6 (10 * f + i)) lat d)) &&& (hsN (S 2) (S 3) (S 7 (10 * f + i)) lat d)) rfl (by omega) (by rw [hR, lpF_s2 zq44, Int.add_assoc]; rfl) _ _ hH ls (lv_sub hl [3, 4, 5, 6, 7, 1, 0] rfl)
  obtain ⟨H, hHe⟩ : ∃ H : Heap, H = s.heap := ⟨_, rfl⟩
  rw [show (Hp g S s s.heap []) = Hp g S s H [] by rw [hHe]] at hH
  rw [← hHe]
  have hn := hN f (by omega) (by omega)
  refine lv_aload_n zx zb dX6_hoursByStars_0 rfl (lv_at hl 0 rfl) ?_
  refine lv_iload_n zx zb dX6_hoursByStars_1 rfl (lv_at hl 1 rfl) ?_
  refine cvN (rest := []) (As := [.int (iI f)]) (b := g.1 0) C0 hH (c_X6_needFigure l g S f (by omega) (by omega)) kw_X6_94 ky_X6_needFigure ⟨Nat.le_of_ble_eq_true rfl, Nat.le_of_ble_eq_true rfl⟩ ⟨Nat.zero_le _, Nat.zero_le _⟩ 0 rfl rfl rfl hl.1 rfl (Nat.le_of_ble_eq_true rfl) dX6_hoursByStars_2 (fun H locs hH => ?_)
  refine lv_iload_n zx zb dX6_hoursByStars_5 rfl (lv_at hl 2 rfl) ?_
  refine csN (rest := []) (As := [.int (iI lat)]) C0 hH (c_X6_needLatitude l g S lat (by omega)) kw_X6_176 ky_X6_needLatitude ⟨Nat.le_of_ble_eq_true rfl, Nat.le_of_ble_eq_true rfl⟩ ⟨Nat.zero_le _, Nat.zero_le _⟩ rfl hl.1 rfl (Nat.le_of_ble_eq_true rfl) dX6_hoursByStars_6 (fun H locs hH => ?_)
  refine lv_iload_n zx zb dX6_hoursByStars_9 rfl (lv_at hl 3 rfl) ?_
  refine csN (rest := []) (As := [.int (iI d)]) C0 hH (c_X6_needDay l g S d (by omega)) kw_X6_179 ky_X6_needDay ⟨Nat.le_of_ble_eq_true rfl, Nat.le_of_ble_eq_true rfl⟩ ⟨Nat.zero_le _, Nat.zero_le _⟩ rfl hl.1 rfl (Nat.le_of_ble_eq_true rfl) dX6_hoursByStars_10 (fun H locs hH => ?_)
  refine lv_aload_n zx zb dX6_hoursByStars_13 rfl (lv_at hl 0 rfl) ?_
  refine gf_X6_19 C0 hH dX6_hoursByStars_14 ?_
  refine gf_X6_102 C0 hH dX6_hoursByStars_17 ?_
  refine lv_iload_n zx zb dX6_hoursByStars_20 rfl (lv_at hl 1 rfl) ?_
  refine al_5 C0 hH (by omega) (by omega) dX6_hoursByStars_21 ?_
  refine lv_istore (lv' := [(4, .int (iI (S 5 f))), (0, .ref (g.1 0)), (1, .int (iI f)), (2, .int (iI lat)), (3, .int (iI d))]) zx zb dX6_hoursByStars_22 hl (by decide) rfl (fun ls hl => ?_)
  refine lv_iload zx zb dX6_hoursByStars_24 (lv_at hl 0 rfl) ?_
  refine bz_ne (tgt := 33) zx zb dX6_hoursByStars_26 (by decide) ⟨by omega, by omega⟩ (fun zq26 => ?_) (fun zq26 => ?_)
  · refine bi_ldc (n := 16777215) zx zb C0.2.2.2.1 (C0.2.2.2.2.1.w (gm 577 (by decide +kernel) rfl)) dX6_hoursByStars_33 ?_
    refine lv_istore (lv' := [(5, .int (iI 16777215)), (4, .int (iI (S 5 f))), (0, .ref (g.1 0)), (1, .int (iI f)), (2, .int (iI lat)), (3, .int (iI d))]) zx zb dX6_hoursByStars_35 hl (by decide) rfl (fun ls hl => ?_)
    refine bi_const (n := 0) zx zb dX6_hoursByStars_37 ?_
    refine lv_istore (lv' := [(6, .int (iI 0)), (5, .int (iI 16777215)), (4, .int (iI (S 5 f))), (0, .ref (g.1 0)), (1, .int (iI f)), (2, .int (iI lat)), (3, .int (iI d))]) zx zb dX6_hoursByStars_38 hl (by decide) rfl (fun ls hl => ?_)
    exact L40 _ 0 16777215 rfl (by omega) (by unfold hbN; first | (rw [if_pos zq26, Int.sub_zero, Int.add_zero]; done) | (rw [if_neg zq26, Int.sub_zero, Int.add_zero]; done)) _ _ hH ls (lv_sub hl [3, 4, 5, 6, 2, 1, 0] rfl)
  · refine bi_const (n := 0) zx zb dX6_hoursByStars_29 ?_
    refine lv_goto (tgt := 35) zx zb dX6_hoursByStars_30 (by decide) ?_
    refine lv_istore (lv' := [(5, .int (iI 0)), (4, .int (iI (S 5 f))), (0, .ref (g.1 0)), (1, .int (iI f)), (2, .int (iI lat)), (3, .int (iI d))]) zx zb dX6_hoursByStars_35 hl (by decide) rfl (fun ls hl => ?_)
    refine bi_const (n := 0) zx zb dX6_hoursByStars_37 ?_
    refine lv_istore (lv' := [(6, .int (iI 0)), (5, .int (iI 0)), (4, .int (iI (S 5 f))), (0, .ref (g.1 0)), (1, .int (iI f)), (2, .int (iI lat)), (3, .int (iI d))]) zx zb dX6_hoursByStars_38 hl (by decide) rfl (fun ls hl => ?_)
    exact L40 _ 0 0 rfl (by omega) (by unfold hbN; first | (rw [if_pos zq26, Int.sub_zero, Int.add_zero]; done) | (rw [if_neg zq26, Int.sub_zero, Int.add_zero]; done)) _ _ hH ls (lv_sub hl [3, 4, 5, 6, 2, 1, 0] rfl)
set_option maxRecDepth 100000 in
set_option maxHeartbeats 4000000 in
theorem x1_X6_hoursByStars (l : Launch) (g : gT) (S : gSt) (f lat d : Int) (hnf : 0 ≤ S 4 0 ∧ S 4 0 ≤ 8) (hr_f : -2147483648 ≤ f ∧ f < 2147483648) (hfb : ¬(0 ≤ f ∧ f < S 4 0)) (hfl : l.stackTraces = false) : ThrG l g yX6_hoursByStars cX6_hoursByStars 8 (some .int) 7 106 [.ref (g.1 0), .int (iI f), .int (iI lat), .int (iI d)] S "java/lang/IndexOutOfBoundsException" S := by
  refine bodyX (by decide +kernel) (Nat.le_of_ble_eq_true rfl) ?_
  intro p e s m args below meth c ls C0 htab hlk hl hH
  have zx := C0.1
  have zb := C0.2.1
  have hl : lv_has ls 8 [(0, .ref (g.1 0)), (1, .int (iI f)), (2, .int (iI lat)), (3, .int (iI d))] := hl
  obtain ⟨H, hHe⟩ : ∃ H : Heap, H = s.heap := ⟨_, rfl⟩
  rw [show (Hp g S s s.heap []) = Hp g S s H [] by rw [hHe]] at hH
  rw [← hHe]
  refine lv_aload_n zx zb dX6_hoursByStars_0 rfl (lv_at hl 0 rfl) ?_
  refine lv_iload_n zx zb dX6_hoursByStars_1 rfl (lv_at hl 1 rfl) ?_
  exact cvX (rest := []) (As := [.int (iI f)]) (b := g.1 0) C0 htab hlk hH (x_X6_needFigure l g S f (by omega) (by omega) (by omega) hfl) kw_X6_94 ky_X6_needFigure ⟨Nat.le_of_ble_eq_true rfl, Nat.le_of_ble_eq_true rfl⟩ ⟨Nat.le_of_ble_eq_true rfl, Nat.le_of_ble_eq_true rfl⟩ 0 rfl rfl rfl hl.1 rfl (Nat.le_of_ble_eq_true rfl) dX6_hoursByStars_2
set_option maxRecDepth 100000 in
set_option maxHeartbeats 4000000 in
theorem x2_X6_hoursByStars (l : Launch) (g : gT) (S : gSt) (f lat d : Int) (hnf : 0 ≤ S 4 0 ∧ S 4 0 ≤ 8) (hfo : 0 ≤ f ∧ f < S 4 0) (hr_lat : -2147483648 ≤ lat ∧ lat < 2147483648) (hr_d : -2147483648 ≤ d ∧ d < 2147483648) (hbad : ¬((-90 ≤ lat ∧ lat ≤ 90) ∧ (0 ≤ d ∧ d < 365))) (hfl : l.stackTraces = false) : ThrG l g yX6_hoursByStars cX6_hoursByStars 8 (some .int) 7 105 [.ref (g.1 0), .int (iI f), .int (iI lat), .int (iI d)] S "java/lang/IllegalArgumentException" S := by
  refine bodyX (by decide +kernel) (Nat.le_of_ble_eq_true rfl) ?_
  intro p e s m args below meth c ls C0 htab hlk hl hH
  have zx := C0.1
  have zb := C0.2.1
  have hl : lv_has ls 8 [(0, .ref (g.1 0)), (1, .int (iI f)), (2, .int (iI lat)), (3, .int (iI d))] := hl
  obtain ⟨H, hHe⟩ : ∃ H : Heap, H = s.heap := ⟨_, rfl⟩
  rw [show (Hp g S s s.heap []) = Hp g S s H [] by rw [hHe]] at hH
  rw [← hHe]
  refine lv_aload_n zx zb dX6_hoursByStars_0 rfl (lv_at hl 0 rfl) ?_
  refine lv_iload_n zx zb dX6_hoursByStars_1 rfl (lv_at hl 1 rfl) ?_
  refine cvN (rest := []) (As := [.int (iI f)]) (b := g.1 0) C0 hH (c_X6_needFigure l g S f (by omega) (by omega)) kw_X6_94 ky_X6_needFigure ⟨Nat.le_of_ble_eq_true rfl, Nat.le_of_ble_eq_true rfl⟩ ⟨Nat.zero_le _, Nat.zero_le _⟩ 0 rfl rfl rfl hl.1 rfl (Nat.le_of_ble_eq_true rfl) dX6_hoursByStars_2 (fun H locs hH => ?_)
  refine lv_iload_n zx zb dX6_hoursByStars_5 rfl (lv_at hl 2 rfl) ?_
  by_cases hc6 : -90 ≤ lat ∧ lat ≤ 90
  · refine csN (rest := []) (As := [.int (iI lat)]) C0 hH (c_X6_needLatitude l g S lat (by omega)) kw_X6_176 ky_X6_needLatitude ⟨Nat.le_of_ble_eq_true rfl, Nat.le_of_ble_eq_true rfl⟩ ⟨Nat.zero_le _, Nat.zero_le _⟩ rfl hl.1 rfl (Nat.le_of_ble_eq_true rfl) dX6_hoursByStars_6 (fun H locs hH => ?_)
    refine lv_iload_n zx zb dX6_hoursByStars_9 rfl (lv_at hl 3 rfl) ?_
    exact csX (rest := []) (As := [.int (iI d)]) C0 htab hlk hH (x_X6_needDay l g S d (by omega) (by omega) hfl) kw_X6_179 ky_X6_needDay ⟨Nat.le_of_ble_eq_true rfl, Nat.le_of_ble_eq_true rfl⟩ ⟨Nat.le_of_ble_eq_true rfl, Nat.le_of_ble_eq_true rfl⟩ rfl hl.1 rfl (Nat.le_of_ble_eq_true rfl) dX6_hoursByStars_10
  · exact csX (rest := []) (As := [.int (iI lat)]) C0 htab hlk hH (x_X6_needLatitude l g S lat (by omega) (by omega) hfl) kw_X6_176 ky_X6_needLatitude ⟨Nat.le_of_ble_eq_true rfl, Nat.le_of_ble_eq_true rfl⟩ ⟨Nat.le_of_ble_eq_true rfl, Nat.le_of_ble_eq_true rfl⟩ rfl hl.1 rfl (Nat.le_of_ble_eq_true rfl) dX6_hoursByStars_6
set_option maxRecDepth 100000 in
set_option maxHeartbeats 4000000 in
theorem c_X6_bestHour (l : Launch) (g : gT) (S : gSt) (f lat d : Int) (hnf : 0 ≤ S 4 0 ∧ S 4 0 ≤ 8) (hfo : 0 ≤ f ∧ f < S 4 0) (hlat : -90 ≤ lat ∧ lat ≤ 90) (hd : 0 ≤ d ∧ d < 365) (hN : okN (S 5)) (hE : okE (S 5) (S 6)) (hO : okE (S 5) (S 7)) (hC : okC (S 2) (S 3)) : MetG l g yX6_bestHour cX6_bestHour 8 (some .int) 5 120 [.ref (g.1 0), .int (iI f), .int (iI lat), .int (iI d)] S (some (.int (iI (bhI (fun h => lwI (S 5) (S 6) (S 7) (S 2) (S 3) f lat (15 * h + d)))))) S := by
  refine bodyG (by decide +kernel) (Nat.le_of_ble_eq_true rfl) ?_
  intro p e s m args below meth c ls C0 hret hlk hl hH
  have zx := C0.1
  have zb := C0.2.1
  have hl : lv_has ls 8 [(0, .ref (g.1 0)), (1, .int (iI f)), (2, .int (iI lat)), (3, .int (iI d))] := hl
  have L22 : ∀ (μ : Nat) (i : Int) (a : Int) (b : Int), (24 - i).toNat = μ → (0 ≤ i ∧ i ≤ 24) → (-3000 ≤ b ∧ b ≤ 3000) → (bhI (fun h => lwI (S 5) (S 6) (S 7) (S 2) (S 3) f lat (15 * h + d)) = (lpF (bhQ (fun h => lwI (S 5) (S 6) (S 7) (S 2) (S 3) f lat (15 * h + d))) (24 - i).toNat i (a, b)).1) → ∀ (H : Heap) (locs : List Loc), Hp g S s H locs → ∀ ls : Array Slot, lv_has ls 8 [(0, .ref (g.1 0)), (1, .int (iI f)), (2, .int (iI lat)), (3, .int (iI d)), (4, .int (iI a)), (5, .int (iI b)), (6, .int (iI i))] → W p l e { frames := 5, cells := 0, slots := 0, locals := 120 } s m args below meth c H locs 0 0 (MQ below (RetG g (some (.int (iI (bhI (fun h => lwI (S 5) (S 6) (S 7) (S 2) (S 3) f lat (15 * h + d)))))) S) args s 0 0 (oA g)) (F0 m 22 ls []) := by
    refine lpN (fun μ22 ih22 => ?_)
    intro i a b hμ22 hi hb2 hR H locs hH ls hl
    refine lv_iload zx zb dX6_bestHour_22 (lv_at hl 6 rfl) ?_
    refine bi_bip (n := 24) zx zb dX6_bestHour_24 (by decide) ?_
    refine bq_ge (tgt := 64) zx zb dX6_bestHour_26 (by decide) ⟨by omega, by omega⟩ ⟨by omega, by omega⟩ (fun zq26 => ?_) (fun zq26 => ?_)
    · refine lv_iload zx zb dX6_bestHour_64 (lv_at hl 4 rfl) ?_
      exact retI C0 hret hlk hH (by rw [hR, lpF_e zq26]) (rfl) dX6_bestHour_66
    · refine lv_aload_n zx zb dX6_bestHour_29 rfl (lv_at hl 0 rfl) ?_
      refine lv_iload_n zx zb dX6_bestHour_30 rfl (lv_at hl 1 rfl) ?_
      refine lv_iload_n zx zb dX6_bestHour_31 rfl (lv_at hl 2 rfl) ?_
      refine lv_iload_n zx zb dX6_bestHour_32 rfl (lv_at hl 3 rfl) ?_
      refine lv_iload zx zb dX6_bestHour_33 (lv_at hl 6 rfl) ?_
      refine csI (rest := [.int (iI lat), .int (iI f), .ref (g.1 0)]) (As := [.int (iI d), .int (iI i)]) C0 hH (c_X6_skyTurn l g S d i) kw_X6_185 ky_X6_skyTurn ⟨Nat.le_of_ble_eq_true rfl, Nat.le_of_ble_eq_true rfl⟩ ⟨Nat.zero_le _, Nat.zero_le _⟩ rfl hl.1 rfl (Nat.le_of_ble_eq_true rfl) dX6_bestHour_35 (fun H locs hH => ?_)
      refine cvI (rest := []) (As := [.int (iI f), .int (iI lat), .int (iI (15 * i + d))]) (b := g.1 0) C0 hH (c_X6_lowestHeight l g S f lat (15 * i + d) (by omega) (by omega) (by omega) (hN) (hE) (hO) (hC)) kw_X6_198 ky_X6_lowestHeight ⟨Nat.le_of_ble_eq_true rfl, Nat.le_of_ble_eq_true rfl⟩ ⟨Nat.zero_le _, Nat.zero_le _⟩ 0 rfl rfl rfl hl.1 rfl (Nat.le_of_ble_eq_true rfl) dX6_bestHour_38 (fun H locs hH => ?_)
      have hlb := lwI_b (S 5) (S 6) (S 7) (S 2) (S 3) f lat (15 * i + d)
      refine lv_istore (lv' := [(7, .int (iI (lwI (S 5) (S 6) (S 7) (S 2) (S 3) f lat (15 * i + d)))), (0, .ref (g.1 0)), (1, .int (iI f)), (2, .int (iI lat)), (3, .int (iI d)), (4, .int (iI a)), (5, .int (iI b)), (6, .int (iI i))]) zx zb dX6_bestHour_41 hl (by decide) rfl (fun ls hl => ?_)
      refine lv_iload zx zb dX6_bestHour_43 (lv_at hl 0 rfl) ?_
      refine lv_iload zx zb dX6_bestHour_45 (lv_at hl 6 rfl) ?_
      refine bq_le (tgt := 58) zx zb dX6_bestHour_47 (by decide) ⟨by omega, by omega⟩ ⟨by omega, by omega⟩ (fun zq47 => ?_) (fun zq47 => ?_)
      · refine bi_inc (k0 := 7) (n := 1) (lv' := [(6, .int (iI (i + 1))), (7, .int (iI (lwI (S 5) (S 6) (S 7) (S 2) (S 3) f lat (15 * i + d)))), (0, .ref (g.1 0)), (1, .int (iI f)), (2, .int (iI lat)), (3, .int (iI d)), (4, .int (iI a)), (5, .int (iI b))]) zx zb dX6_bestHour_58 hl rfl (by decide) rfl (fun ls hl => ?_)
        refine lv_goto (tgt := 22) zx zb dX6_bestHour_61 (by decide) ?_
        exact ih22 ((24 - (i + 1)).toNat) (by omega) (i + 1) a b rfl (by omega) (by omega) (by rw [hR, lpF_s zq26]; unfold bhQ; first | (rw [if_pos zq47]; done) | (rw [if_neg (Int.not_lt.mpr zq47)]; done)) _ _ hH ls (lv_sub hl [2, 3, 4, 5, 6, 7, 0] rfl)
      · refine lv_iload zx zb dX6_bestHour_50 (lv_at hl 7 rfl) ?_
        refine lv_istore (lv' := [(4, .int (iI i)), (7, .int (iI (lwI (S 5) (S 6) (S 7) (S 2) (S 3) f lat (15 * i + d)))), (0, .ref (g.1 0)), (1, .int (iI f)), (2, .int (iI lat)), (3, .int (iI d)), (5, .int (iI b)), (6, .int (iI i))]) zx zb dX6_bestHour_52 hl (by decide) rfl (fun ls hl => ?_)
        refine lv_iload zx zb dX6_bestHour_54 (lv_at hl 1 rfl) ?_
        refine lv_istore (lv' := [(5, .int (iI (lwI (S 5) (S 6) (S 7) (S 2) (S 3) f lat (15 * i + d)))), (4, .int (iI i)), (7, .int (iI (lwI (S 5) (S 6) (S 7) (S 2) (S 3) f lat (15 * i + d)))), (0, .ref (g.1 0)), (1, .int (iI f)), (2, .int (iI lat)), (3, .int (iI d)), (6, .int (iI i))]) zx zb dX6_bestHour_56 hl (by decide) rfl (fun ls hl => ?_)
        refine bi_inc (k0 := 7) (n := 1) (lv' := [(6, .int (iI (i + 1))), (5, .int (iI (lwI (S 5) (S 6) (S 7) (S 2) (S 3) f lat (15 * i + d)))), (4, .int (iI i)), (7, .int (iI (lwI (S 5) (S 6) (S 7) (S 2) (S 3) f lat (15 * i + d)))), (0, .ref (g.1 0)), (1, .int (iI f)), (2, .int (iI lat)), (3, .int (iI d))]) zx zb dX6_bestHour_58 hl rfl (by decide) rfl (fun ls hl => ?_)
        refine lv_goto (tgt := 22) zx zb dX6_bestHour_61 (by decide) ?_
        exact ih22 ((24 - (i + 1)).toNat) (by omega) (i + 1) i (lwI (S 5) (S 6) (S 7) (S 2) (S 3) f lat (15 * i + d)) rfl (by omega) (by omega) (by rw [hR, lpF_s zq26]; unfold bhQ; first | (rw [if_pos zq47]; done) | (rw [if_neg (Int.not_lt.mpr zq47)]; done)) _ _ hH ls (lv_sub hl [4, 5, 6, 7, 2, 1, 0] rfl)
  obtain ⟨H, hHe⟩ : ∃ H : Heap, H = s.heap := ⟨_, rfl⟩
  rw [show (Hp g S s s.heap []) = Hp g S s H [] by rw [hHe]] at hH
  rw [← hHe]
  refine lv_aload_n zx zb dX6_bestHour_0 rfl (lv_at hl 0 rfl) ?_
  refine lv_iload_n zx zb dX6_bestHour_1 rfl (lv_at hl 1 rfl) ?_
  refine cvN (rest := []) (As := [.int (iI f)]) (b := g.1 0) C0 hH (c_X6_needFigure l g S f (by omega) (by omega)) kw_X6_94 ky_X6_needFigure ⟨Nat.le_of_ble_eq_true rfl, Nat.le_of_ble_eq_true rfl⟩ ⟨Nat.zero_le _, Nat.zero_le _⟩ 0 rfl rfl rfl hl.1 rfl (Nat.le_of_ble_eq_true rfl) dX6_bestHour_2 (fun H locs hH => ?_)
  refine lv_iload_n zx zb dX6_bestHour_5 rfl (lv_at hl 2 rfl) ?_
  refine csN (rest := []) (As := [.int (iI lat)]) C0 hH (c_X6_needLatitude l g S lat (by omega)) kw_X6_176 ky_X6_needLatitude ⟨Nat.le_of_ble_eq_true rfl, Nat.le_of_ble_eq_true rfl⟩ ⟨Nat.zero_le _, Nat.zero_le _⟩ rfl hl.1 rfl (Nat.le_of_ble_eq_true rfl) dX6_bestHour_6 (fun H locs hH => ?_)
  refine lv_iload_n zx zb dX6_bestHour_9 rfl (lv_at hl 3 rfl) ?_
  refine csN (rest := []) (As := [.int (iI d)]) C0 hH (c_X6_needDay l g S d (by omega)) kw_X6_179 ky_X6_needDay ⟨Nat.le_of_ble_eq_true rfl, Nat.le_of_ble_eq_true rfl⟩ ⟨Nat.zero_le _, Nat.zero_le _⟩ rfl hl.1 rfl (Nat.le_of_ble_eq_true rfl) dX6_bestHour_10 (fun H locs hH => ?_)
  refine bi_const (n := (-1)) zx zb dX6_bestHour_13 ?_
  refine lv_istore (lv' := [(4, .int (iI (-1))), (0, .ref (g.1 0)), (1, .int (iI f)), (2, .int (iI lat)), (3, .int (iI d))]) zx zb dX6_bestHour_14 hl (by decide) rfl (fun ls hl => ?_)
  refine bi_const (n := 0) zx zb dX6_bestHour_16 ?_
  refine lv_istore (lv' := [(5, .int (iI 0)), (4, .int (iI (-1))), (0, .ref (g.1 0)), (1, .int (iI f)), (2, .int (iI lat)), (3, .int (iI d))]) zx zb dX6_bestHour_17 hl (by decide) rfl (fun ls hl => ?_)
  refine bi_const (n := 0) zx zb dX6_bestHour_19 ?_
  refine lv_istore (lv' := [(6, .int (iI 0)), (5, .int (iI 0)), (4, .int (iI (-1))), (0, .ref (g.1 0)), (1, .int (iI f)), (2, .int (iI lat)), (3, .int (iI d))]) zx zb dX6_bestHour_20 hl (by decide) rfl (fun ls hl => ?_)
  exact L22 _ 0 (-1) 0 rfl (by omega) (by omega) (by unfold bhI; rw [Int.sub_zero]) _ _ hH ls (lv_sub hl [3, 4, 5, 6, 2, 1, 0] rfl)
set_option maxRecDepth 100000 in
set_option maxHeartbeats 4000000 in
theorem x1_X6_bestHour (l : Launch) (g : gT) (S : gSt) (f lat d : Int) (hnf : 0 ≤ S 4 0 ∧ S 4 0 ≤ 8) (hr_f : -2147483648 ≤ f ∧ f < 2147483648) (hfb : ¬(0 ≤ f ∧ f < S 4 0)) (hfl : l.stackTraces = false) : ThrG l g yX6_bestHour cX6_bestHour 8 (some .int) 7 106 [.ref (g.1 0), .int (iI f), .int (iI lat), .int (iI d)] S "java/lang/IndexOutOfBoundsException" S := by
  refine bodyX (by decide +kernel) (Nat.le_of_ble_eq_true rfl) ?_
  intro p e s m args below meth c ls C0 htab hlk hl hH
  have zx := C0.1
  have zb := C0.2.1
  have hl : lv_has ls 8 [(0, .ref (g.1 0)), (1, .int (iI f)), (2, .int (iI lat)), (3, .int (iI d))] := hl
  obtain ⟨H, hHe⟩ : ∃ H : Heap, H = s.heap := ⟨_, rfl⟩
  rw [show (Hp g S s s.heap []) = Hp g S s H [] by rw [hHe]] at hH
  rw [← hHe]
  refine lv_aload_n zx zb dX6_bestHour_0 rfl (lv_at hl 0 rfl) ?_
  refine lv_iload_n zx zb dX6_bestHour_1 rfl (lv_at hl 1 rfl) ?_
  exact cvX (rest := []) (As := [.int (iI f)]) (b := g.1 0) C0 htab hlk hH (x_X6_needFigure l g S f (by omega) (by omega) (by omega) hfl) kw_X6_94 ky_X6_needFigure ⟨Nat.le_of_ble_eq_true rfl, Nat.le_of_ble_eq_true rfl⟩ ⟨Nat.le_of_ble_eq_true rfl, Nat.le_of_ble_eq_true rfl⟩ 0 rfl rfl rfl hl.1 rfl (Nat.le_of_ble_eq_true rfl) dX6_bestHour_2
set_option maxRecDepth 100000 in
set_option maxHeartbeats 4000000 in
theorem x2_X6_bestHour (l : Launch) (g : gT) (S : gSt) (f lat d : Int) (hnf : 0 ≤ S 4 0 ∧ S 4 0 ≤ 8) (hfo : 0 ≤ f ∧ f < S 4 0) (hr_lat : -2147483648 ≤ lat ∧ lat < 2147483648) (hr_d : -2147483648 ≤ d ∧ d < 2147483648) (hbad : ¬((-90 ≤ lat ∧ lat ≤ 90) ∧ (0 ≤ d ∧ d < 365))) (hfl : l.stackTraces = false) : ThrG l g yX6_bestHour cX6_bestHour 8 (some .int) 7 105 [.ref (g.1 0), .int (iI f), .int (iI lat), .int (iI d)] S "java/lang/IllegalArgumentException" S := by
  refine bodyX (by decide +kernel) (Nat.le_of_ble_eq_true rfl) ?_
  intro p e s m args below meth c ls C0 htab hlk hl hH
  have zx := C0.1
  have zb := C0.2.1
  have hl : lv_has ls 8 [(0, .ref (g.1 0)), (1, .int (iI f)), (2, .int (iI lat)), (3, .int (iI d))] := hl
  obtain ⟨H, hHe⟩ : ∃ H : Heap, H = s.heap := ⟨_, rfl⟩
  rw [show (Hp g S s s.heap []) = Hp g S s H [] by rw [hHe]] at hH
  rw [← hHe]
  refine lv_aload_n zx zb dX6_bestHour_0 rfl (lv_at hl 0 rfl) ?_
  refine lv_iload_n zx zb dX6_bestHour_1 rfl (lv_at hl 1 rfl) ?_
  refine cvN (rest := []) (As := [.int (iI f)]) (b := g.1 0) C0 hH (c_X6_needFigure l g S f (by omega) (by omega)) kw_X6_94 ky_X6_needFigure ⟨Nat.le_of_ble_eq_true rfl, Nat.le_of_ble_eq_true rfl⟩ ⟨Nat.zero_le _, Nat.zero_le _⟩ 0 rfl rfl rfl hl.1 rfl (Nat.le_of_ble_eq_true rfl) dX6_bestHour_2 (fun H locs hH => ?_)
  refine lv_iload_n zx zb dX6_bestHour_5 rfl (lv_at hl 2 rfl) ?_
  by_cases hc6 : -90 ≤ lat ∧ lat ≤ 90
  · refine csN (rest := []) (As := [.int (iI lat)]) C0 hH (c_X6_needLatitude l g S lat (by omega)) kw_X6_176 ky_X6_needLatitude ⟨Nat.le_of_ble_eq_true rfl, Nat.le_of_ble_eq_true rfl⟩ ⟨Nat.zero_le _, Nat.zero_le _⟩ rfl hl.1 rfl (Nat.le_of_ble_eq_true rfl) dX6_bestHour_6 (fun H locs hH => ?_)
    refine lv_iload_n zx zb dX6_bestHour_9 rfl (lv_at hl 3 rfl) ?_
    exact csX (rest := []) (As := [.int (iI d)]) C0 htab hlk hH (x_X6_needDay l g S d (by omega) (by omega) hfl) kw_X6_179 ky_X6_needDay ⟨Nat.le_of_ble_eq_true rfl, Nat.le_of_ble_eq_true rfl⟩ ⟨Nat.le_of_ble_eq_true rfl, Nat.le_of_ble_eq_true rfl⟩ rfl hl.1 rfl (Nat.le_of_ble_eq_true rfl) dX6_bestHour_10
  · exact csX (rest := []) (As := [.int (iI lat)]) C0 htab hlk hH (x_X6_needLatitude l g S lat (by omega) (by omega) hfl) kw_X6_176 ky_X6_needLatitude ⟨Nat.le_of_ble_eq_true rfl, Nat.le_of_ble_eq_true rfl⟩ ⟨Nat.le_of_ble_eq_true rfl, Nat.le_of_ble_eq_true rfl⟩ rfl hl.1 rfl (Nat.le_of_ble_eq_true rfl) dX6_bestHour_6
set_option maxRecDepth 100000 in
set_option maxHeartbeats 4000000 in
theorem c_X6_plan (l : Launch) (g : gT) (S : gSt) (f lat d h : Int) (hnf : 0 ≤ S 4 0 ∧ S 4 0 ≤ 8) (hfo : 0 ≤ f ∧ f < S 4 0) (hlat : -90 ≤ lat ∧ lat ≤ 90) (hd : 0 ≤ d ∧ d < 365) (hh : 0 ≤ h ∧ h < 24) (hN : okN (S 5)) (hE : okE (S 5) (S 6)) (hO : okE (S 5) (S 7)) (hC : okC (S 2) (S 3)) (hG : okG (S 11)) (hsc : 0 ≤ S 12 0 ∧ S 12 0 ≤ 12) (hup : upB (S 5) (S 6) (S 7) (S 2) (S 3) f lat (15 * h + d) = true) (hnm : S 11 f ≠ -1) (hs12 : S 12 0 < 12) : MetG l g yX6_plan cX6_plan 7 (some .int) 6 143 [.ref (g.1 0), .int (iI f), .int (iI lat), .int (iI d), .int (iI h)] S (some (.int (iI (S 12 0)))) (apS S f (S 11 f) lat (15 * h + d)) := by
  refine bodyG (by decide +kernel) (Nat.le_of_ble_eq_true rfl) ?_
  intro p e s m args below meth c ls C0 hret hlk hl hH
  have zx := C0.1
  have zb := C0.2.1
  have hl : lv_has ls 7 [(0, .ref (g.1 0)), (1, .int (iI f)), (2, .int (iI lat)), (3, .int (iI d)), (4, .int (iI h))] := hl
  obtain ⟨H, hHe⟩ : ∃ H : Heap, H = s.heap := ⟨_, rfl⟩
  rw [show (Hp g S s s.heap []) = Hp g S s H [] by rw [hHe]] at hH
  rw [← hHe]
  refine lv_aload_n zx zb dX6_plan_0 rfl (lv_at hl 0 rfl) ?_
  refine lv_iload_n zx zb dX6_plan_1 rfl (lv_at hl 1 rfl) ?_
  refine cvN (rest := []) (As := [.int (iI f)]) (b := g.1 0) C0 hH (c_X6_needFigure l g S f (by omega) (by omega)) kw_X6_94 ky_X6_needFigure ⟨Nat.le_of_ble_eq_true rfl, Nat.le_of_ble_eq_true rfl⟩ ⟨Nat.zero_le _, Nat.zero_le _⟩ 0 rfl rfl rfl hl.1 rfl (Nat.le_of_ble_eq_true rfl) dX6_plan_2 (fun H locs hH => ?_)
  refine lv_iload_n zx zb dX6_plan_5 rfl (lv_at hl 2 rfl) ?_
  refine csN (rest := []) (As := [.int (iI lat)]) C0 hH (c_X6_needLatitude l g S lat (by omega)) kw_X6_176 ky_X6_needLatitude ⟨Nat.le_of_ble_eq_true rfl, Nat.le_of_ble_eq_true rfl⟩ ⟨Nat.zero_le _, Nat.zero_le _⟩ rfl hl.1 rfl (Nat.le_of_ble_eq_true rfl) dX6_plan_6 (fun H locs hH => ?_)
  refine lv_iload_n zx zb dX6_plan_9 rfl (lv_at hl 3 rfl) ?_
  refine csN (rest := []) (As := [.int (iI d)]) C0 hH (c_X6_needDay l g S d (by omega)) kw_X6_179 ky_X6_needDay ⟨Nat.le_of_ble_eq_true rfl, Nat.le_of_ble_eq_true rfl⟩ ⟨Nat.zero_le _, Nat.zero_le _⟩ rfl hl.1 rfl (Nat.le_of_ble_eq_true rfl) dX6_plan_10 (fun H locs hH => ?_)
  refine lv_iload zx zb dX6_plan_13 (lv_at hl 4 rfl) ?_
  refine csN (rest := []) (As := [.int (iI h)]) C0 hH (c_X6_needHour l g S h (by omega)) kw_X6_182 ky_X6_needHour ⟨Nat.le_of_ble_eq_true rfl, Nat.le_of_ble_eq_true rfl⟩ ⟨Nat.zero_le _, Nat.zero_le _⟩ rfl hl.1 rfl (Nat.le_of_ble_eq_true rfl) dX6_plan_15 (fun H locs hH => ?_)
  refine lv_iload_n zx zb dX6_plan_18 rfl (lv_at hl 3 rfl) ?_
  refine lv_iload zx zb dX6_plan_19 (lv_at hl 4 rfl) ?_
  refine csI (rest := []) (As := [.int (iI d), .int (iI h)]) C0 hH (c_X6_skyTurn l g S d h) kw_X6_185 ky_X6_skyTurn ⟨Nat.le_of_ble_eq_true rfl, Nat.le_of_ble_eq_true rfl⟩ ⟨Nat.zero_le _, Nat.zero_le _⟩ rfl hl.1 rfl (Nat.le_of_ble_eq_true rfl) dX6_plan_21 (fun H locs hH => ?_)
  refine lv_istore (lv' := [(5, .int (iI (15 * h + d))), (0, .ref (g.1 0)), (1, .int (iI f)), (2, .int (iI lat)), (3, .int (iI d)), (4, .int (iI h))]) zx zb dX6_plan_24 hl (by decide) rfl (fun ls hl => ?_)
  refine lv_aload_n zx zb dX6_plan_26 rfl (lv_at hl 1 rfl) ?_
  refine lv_iload_n zx zb dX6_plan_27 rfl (lv_at hl 2 rfl) ?_
  refine lv_iload_n zx zb dX6_plan_28 rfl (lv_at hl 3 rfl) ?_
  refine lv_iload zx zb dX6_plan_29 (lv_at hl 0 rfl) ?_
  refine cvI (rest := []) (As := [.int (iI f), .int (iI lat), .int (iI (15 * h + d))]) (b := g.1 0) C0 hH (c_X6_figureIsUp l g S f lat (15 * h + d) (by omega) (by omega) (by omega) (hN) (hE) (hO) (hC)) kw_X6_191 ky_X6_figureIsUp ⟨Nat.le_of_ble_eq_true rfl, Nat.le_of_ble_eq_true rfl⟩ ⟨Nat.zero_le _, Nat.zero_le _⟩ 0 rfl rfl rfl hl.1 rfl (Nat.le_of_ble_eq_true rfl) dX6_plan_31 (fun H locs hH => ?_)
  rw [hup]
  refine bz_ne (tgt := 47) zx zb dX6_plan_34 (by decide) ⟨by omega, by omega⟩ (fun zq34 => ?_) (fun zq34 => ?_)
  · have hg := hG f (by omega) (by omega)
    refine lv_aload_n zx zb dX6_plan_47 rfl (lv_at hl 1 rfl) ?_
    refine gf_X6_26 C0 hH dX6_plan_48 ?_
    refine gf_X6_173 C0 hH dX6_plan_51 ?_
    refine lv_iload_n zx zb dX6_plan_54 rfl (lv_at hl 2 rfl) ?_
    refine al_11 C0 hH (by omega) (by omega) dX6_plan_55 ?_
    refine lv_istore (lv' := [(6, .int (iI (S 11 f))), (5, .int (iI (15 * h + d))), (0, .ref (g.1 0)), (1, .int (iI f)), (2, .int (iI lat)), (3, .int (iI d)), (4, .int (iI h))]) zx zb dX6_plan_56 hl (by decide) rfl (fun ls hl => ?_)
    refine lv_iload zx zb dX6_plan_58 (lv_at hl 0 rfl) ?_
    refine bi_const (n := (-1)) zx zb dX6_plan_60 ?_
    refine bq_ne (tgt := 74) zx zb dX6_plan_61 (by decide) ⟨by omega, by omega⟩ ⟨by omega, by omega⟩ (fun zq61 => ?_) (fun zq61 => ?_)
    · refine lv_aload_n zx zb dX6_plan_74 rfl (lv_at hl 2 rfl) ?_
      refine gf_X6_33 C0 hH dX6_plan_75 ?_
      refine gf_X6_205 C0 hH dX6_plan_78 ?_
      refine bi_bip (n := 12) zx zb dX6_plan_81 (by decide) ?_
      refine bq_lt (tgt := 96) zx zb dX6_plan_83 (by decide) ⟨by omega, by omega⟩ ⟨by omega, by omega⟩ (fun zq83 => ?_) (fun zq83 => ?_)
      · refine lv_aload_n zx zb dX6_plan_96 rfl (lv_at hl 2 rfl) ?_
        refine gf_X6_33 C0 hH dX6_plan_97 ?_
        refine lv_iload_n zx zb dX6_plan_100 rfl (lv_at hl 3 rfl) ?_
        refine lv_iload zx zb dX6_plan_101 (lv_at hl 0 rfl) ?_
        refine lv_iload_n zx zb dX6_plan_103 rfl (lv_at hl 4 rfl) ?_
        refine lv_iload zx zb dX6_plan_104 (lv_at hl 1 rfl) ?_
        refine cvI (rest := []) (As := [.int (iI f), .int (iI (S 11 f)), .int (iI lat), .int (iI (15 * h + d))]) (b := g.1 12) C0 hH (c_X4_append l g S f (S 11 f) lat (15 * h + d) (by omega)) kw_X6_210 ky_X4_append ⟨Nat.le_of_ble_eq_true rfl, Nat.le_of_ble_eq_true rfl⟩ ⟨Nat.zero_le _, Nat.zero_le _⟩ 12 rfl rfl rfl hl.1 rfl (Nat.le_of_ble_eq_true rfl) dX6_plan_106 (fun H locs hH => ?_)
        exact retI C0 hret hlk hH (by rfl) (rfl) dX6_plan_109
      · exact absurd zq83 (by omega)
    · exact absurd zq61 hnm
  · exact absurd zq34 (by decide)
set_option maxRecDepth 100000 in
set_option maxHeartbeats 4000000 in
theorem x1_X6_plan (l : Launch) (g : gT) (S : gSt) (f lat d h : Int) (hnf : 0 ≤ S 4 0 ∧ S 4 0 ≤ 8) (hr_f : -2147483648 ≤ f ∧ f < 2147483648) (hfb : ¬(0 ≤ f ∧ f < S 4 0)) (hfl : l.stackTraces = false) : ThrG l g yX6_plan cX6_plan 7 (some .int) 7 106 [.ref (g.1 0), .int (iI f), .int (iI lat), .int (iI d), .int (iI h)] S "java/lang/IndexOutOfBoundsException" S := by
  refine bodyX (by decide +kernel) (Nat.le_of_ble_eq_true rfl) ?_
  intro p e s m args below meth c ls C0 htab hlk hl hH
  have zx := C0.1
  have zb := C0.2.1
  have hl : lv_has ls 7 [(0, .ref (g.1 0)), (1, .int (iI f)), (2, .int (iI lat)), (3, .int (iI d)), (4, .int (iI h))] := hl
  obtain ⟨H, hHe⟩ : ∃ H : Heap, H = s.heap := ⟨_, rfl⟩
  rw [show (Hp g S s s.heap []) = Hp g S s H [] by rw [hHe]] at hH
  rw [← hHe]
  refine lv_aload_n zx zb dX6_plan_0 rfl (lv_at hl 0 rfl) ?_
  refine lv_iload_n zx zb dX6_plan_1 rfl (lv_at hl 1 rfl) ?_
  exact cvX (rest := []) (As := [.int (iI f)]) (b := g.1 0) C0 htab hlk hH (x_X6_needFigure l g S f (by omega) (by omega) (by omega) hfl) kw_X6_94 ky_X6_needFigure ⟨Nat.le_of_ble_eq_true rfl, Nat.le_of_ble_eq_true rfl⟩ ⟨Nat.le_of_ble_eq_true rfl, Nat.le_of_ble_eq_true rfl⟩ 0 rfl rfl rfl hl.1 rfl (Nat.le_of_ble_eq_true rfl) dX6_plan_2
set_option maxRecDepth 100000 in
set_option maxHeartbeats 4000000 in
theorem x2_X6_plan (l : Launch) (g : gT) (S : gSt) (f lat d h : Int) (hnf : 0 ≤ S 4 0 ∧ S 4 0 ≤ 8) (hfo : 0 ≤ f ∧ f < S 4 0) (hr_lat : -2147483648 ≤ lat ∧ lat < 2147483648) (hr_d : -2147483648 ≤ d ∧ d < 2147483648) (hr_h : -2147483648 ≤ h ∧ h < 2147483648) (hbad : ¬((-90 ≤ lat ∧ lat ≤ 90) ∧ (0 ≤ d ∧ d < 365) ∧ (0 ≤ h ∧ h < 24))) (hfl : l.stackTraces = false) : ThrG l g yX6_plan cX6_plan 7 (some .int) 7 105 [.ref (g.1 0), .int (iI f), .int (iI lat), .int (iI d), .int (iI h)] S "java/lang/IllegalArgumentException" S := by
  refine bodyX (by decide +kernel) (Nat.le_of_ble_eq_true rfl) ?_
  intro p e s m args below meth c ls C0 htab hlk hl hH
  have zx := C0.1
  have zb := C0.2.1
  have hl : lv_has ls 7 [(0, .ref (g.1 0)), (1, .int (iI f)), (2, .int (iI lat)), (3, .int (iI d)), (4, .int (iI h))] := hl
  obtain ⟨H, hHe⟩ : ∃ H : Heap, H = s.heap := ⟨_, rfl⟩
  rw [show (Hp g S s s.heap []) = Hp g S s H [] by rw [hHe]] at hH
  rw [← hHe]
  refine lv_aload_n zx zb dX6_plan_0 rfl (lv_at hl 0 rfl) ?_
  refine lv_iload_n zx zb dX6_plan_1 rfl (lv_at hl 1 rfl) ?_
  refine cvN (rest := []) (As := [.int (iI f)]) (b := g.1 0) C0 hH (c_X6_needFigure l g S f (by omega) (by omega)) kw_X6_94 ky_X6_needFigure ⟨Nat.le_of_ble_eq_true rfl, Nat.le_of_ble_eq_true rfl⟩ ⟨Nat.zero_le _, Nat.zero_le _⟩ 0 rfl rfl rfl hl.1 rfl (Nat.le_of_ble_eq_true rfl) dX6_plan_2 (fun H locs hH => ?_)
  refine lv_iload_n zx zb dX6_plan_5 rfl (lv_at hl 2 rfl) ?_
  by_cases hc6 : -90 ≤ lat ∧ lat ≤ 90
  · refine csN (rest := []) (As := [.int (iI lat)]) C0 hH (c_X6_needLatitude l g S lat (by omega)) kw_X6_176 ky_X6_needLatitude ⟨Nat.le_of_ble_eq_true rfl, Nat.le_of_ble_eq_true rfl⟩ ⟨Nat.zero_le _, Nat.zero_le _⟩ rfl hl.1 rfl (Nat.le_of_ble_eq_true rfl) dX6_plan_6 (fun H locs hH => ?_)
    refine lv_iload_n zx zb dX6_plan_9 rfl (lv_at hl 3 rfl) ?_
    by_cases hc10 : 0 ≤ d ∧ d < 365
    · refine csN (rest := []) (As := [.int (iI d)]) C0 hH (c_X6_needDay l g S d (by omega)) kw_X6_179 ky_X6_needDay ⟨Nat.le_of_ble_eq_true rfl, Nat.le_of_ble_eq_true rfl⟩ ⟨Nat.zero_le _, Nat.zero_le _⟩ rfl hl.1 rfl (Nat.le_of_ble_eq_true rfl) dX6_plan_10 (fun H locs hH => ?_)
      refine lv_iload zx zb dX6_plan_13 (lv_at hl 4 rfl) ?_
      exact csX (rest := []) (As := [.int (iI h)]) C0 htab hlk hH (x_X6_needHour l g S h (by omega) (by omega) hfl) kw_X6_182 ky_X6_needHour ⟨Nat.le_of_ble_eq_true rfl, Nat.le_of_ble_eq_true rfl⟩ ⟨Nat.le_of_ble_eq_true rfl, Nat.le_of_ble_eq_true rfl⟩ rfl hl.1 rfl (Nat.le_of_ble_eq_true rfl) dX6_plan_15
    · exact csX (rest := []) (As := [.int (iI d)]) C0 htab hlk hH (x_X6_needDay l g S d (by omega) (by omega) hfl) kw_X6_179 ky_X6_needDay ⟨Nat.le_of_ble_eq_true rfl, Nat.le_of_ble_eq_true rfl⟩ ⟨Nat.le_of_ble_eq_true rfl, Nat.le_of_ble_eq_true rfl⟩ rfl hl.1 rfl (Nat.le_of_ble_eq_true rfl) dX6_plan_10
  · exact csX (rest := []) (As := [.int (iI lat)]) C0 htab hlk hH (x_X6_needLatitude l g S lat (by omega) (by omega) hfl) kw_X6_176 ky_X6_needLatitude ⟨Nat.le_of_ble_eq_true rfl, Nat.le_of_ble_eq_true rfl⟩ ⟨Nat.le_of_ble_eq_true rfl, Nat.le_of_ble_eq_true rfl⟩ rfl hl.1 rfl (Nat.le_of_ble_eq_true rfl) dX6_plan_6
set_option maxRecDepth 100000 in
set_option maxHeartbeats 4000000 in
theorem x3_X6_plan (l : Launch) (g : gT) (S : gSt) (f lat d h : Int) (hnf : 0 ≤ S 4 0 ∧ S 4 0 ≤ 8) (hfo : 0 ≤ f ∧ f < S 4 0) (hlat : -90 ≤ lat ∧ lat ≤ 90) (hd : 0 ≤ d ∧ d < 365) (hh : 0 ≤ h ∧ h < 24) (hN : okN (S 5)) (hE : okE (S 5) (S 6)) (hO : okE (S 5) (S 7)) (hC : okC (S 2) (S 3)) (hG : okG (S 11)) (hsc : 0 ≤ S 12 0 ∧ S 12 0 ≤ 12) (hbad : ¬(upB (S 5) (S 6) (S 7) (S 2) (S 3) f lat (15 * h + d) = true ∧ S 11 f ≠ -1 ∧ S 12 0 < 12)) (hfl : l.stackTraces = false) : ThrG l g yX6_plan cX6_plan 7 (some .int) 6 143 [.ref (g.1 0), .int (iI f), .int (iI lat), .int (iI d), .int (iI h)] S "java/lang/IllegalStateException" S := by
  refine bodyX (by decide +kernel) (Nat.le_of_ble_eq_true rfl) ?_
  intro p e s m args below meth c ls C0 htab hlk hl hH
  have zx := C0.1
  have zb := C0.2.1
  have hl : lv_has ls 7 [(0, .ref (g.1 0)), (1, .int (iI f)), (2, .int (iI lat)), (3, .int (iI d)), (4, .int (iI h))] := hl
  obtain ⟨H, hHe⟩ : ∃ H : Heap, H = s.heap := ⟨_, rfl⟩
  rw [show (Hp g S s s.heap []) = Hp g S s H [] by rw [hHe]] at hH
  rw [← hHe]
  refine lv_aload_n zx zb dX6_plan_0 rfl (lv_at hl 0 rfl) ?_
  refine lv_iload_n zx zb dX6_plan_1 rfl (lv_at hl 1 rfl) ?_
  refine cvN (rest := []) (As := [.int (iI f)]) (b := g.1 0) C0 hH (c_X6_needFigure l g S f (by omega) (by omega)) kw_X6_94 ky_X6_needFigure ⟨Nat.le_of_ble_eq_true rfl, Nat.le_of_ble_eq_true rfl⟩ ⟨Nat.zero_le _, Nat.zero_le _⟩ 0 rfl rfl rfl hl.1 rfl (Nat.le_of_ble_eq_true rfl) dX6_plan_2 (fun H locs hH => ?_)
  refine lv_iload_n zx zb dX6_plan_5 rfl (lv_at hl 2 rfl) ?_
  refine csN (rest := []) (As := [.int (iI lat)]) C0 hH (c_X6_needLatitude l g S lat (by omega)) kw_X6_176 ky_X6_needLatitude ⟨Nat.le_of_ble_eq_true rfl, Nat.le_of_ble_eq_true rfl⟩ ⟨Nat.zero_le _, Nat.zero_le _⟩ rfl hl.1 rfl (Nat.le_of_ble_eq_true rfl) dX6_plan_6 (fun H locs hH => ?_)
  refine lv_iload_n zx zb dX6_plan_9 rfl (lv_at hl 3 rfl) ?_
  refine csN (rest := []) (As := [.int (iI d)]) C0 hH (c_X6_needDay l g S d (by omega)) kw_X6_179 ky_X6_needDay ⟨Nat.le_of_ble_eq_true rfl, Nat.le_of_ble_eq_true rfl⟩ ⟨Nat.zero_le _, Nat.zero_le _⟩ rfl hl.1 rfl (Nat.le_of_ble_eq_true rfl) dX6_plan_10 (fun H locs hH => ?_)
  refine lv_iload zx zb dX6_plan_13 (lv_at hl 4 rfl) ?_
  refine csN (rest := []) (As := [.int (iI h)]) C0 hH (c_X6_needHour l g S h (by omega)) kw_X6_182 ky_X6_needHour ⟨Nat.le_of_ble_eq_true rfl, Nat.le_of_ble_eq_true rfl⟩ ⟨Nat.zero_le _, Nat.zero_le _⟩ rfl hl.1 rfl (Nat.le_of_ble_eq_true rfl) dX6_plan_15 (fun H locs hH => ?_)
  refine lv_iload_n zx zb dX6_plan_18 rfl (lv_at hl 3 rfl) ?_
  refine lv_iload zx zb dX6_plan_19 (lv_at hl 4 rfl) ?_
  refine csI (rest := []) (As := [.int (iI d), .int (iI h)]) C0 hH (c_X6_skyTurn l g S d h) kw_X6_185 ky_X6_skyTurn ⟨Nat.le_of_ble_eq_true rfl, Nat.le_of_ble_eq_true rfl⟩ ⟨Nat.zero_le _, Nat.zero_le _⟩ rfl hl.1 rfl (Nat.le_of_ble_eq_true rfl) dX6_plan_21 (fun H locs hH => ?_)
  refine lv_istore (lv' := [(5, .int (iI (15 * h + d))), (0, .ref (g.1 0)), (1, .int (iI f)), (2, .int (iI lat)), (3, .int (iI d)), (4, .int (iI h))]) zx zb dX6_plan_24 hl (by decide) rfl (fun ls hl => ?_)
  refine lv_aload_n zx zb dX6_plan_26 rfl (lv_at hl 1 rfl) ?_
  refine lv_iload_n zx zb dX6_plan_27 rfl (lv_at hl 2 rfl) ?_
  refine lv_iload_n zx zb dX6_plan_28 rfl (lv_at hl 3 rfl) ?_
  refine lv_iload zx zb dX6_plan_29 (lv_at hl 0 rfl) ?_
  refine cvI (rest := []) (As := [.int (iI f), .int (iI lat), .int (iI (15 * h + d))]) (b := g.1 0) C0 hH (c_X6_figureIsUp l g S f lat (15 * h + d) (by omega) (by omega) (by omega) (hN) (hE) (hO) (hC)) kw_X6_191 ky_X6_figureIsUp ⟨Nat.le_of_ble_eq_true rfl, Nat.le_of_ble_eq_true rfl⟩ ⟨Nat.zero_le _, Nat.zero_le _⟩ 0 rfl rfl rfl hl.1 rfl (Nat.le_of_ble_eq_true rfl) dX6_plan_31 (fun H locs hH => ?_)
  have hb34 := brg (upB (S 5) (S 6) (S 7) (S 2) (S 3) f lat (15 * h + d))
  refine bz_ne (tgt := 47) zx zb dX6_plan_34 (by decide) ⟨by omega, by omega⟩ (fun zq34 => ?_) (fun zq34 => ?_)
  · have hg := hG f (by omega) (by omega)
    refine lv_aload_n zx zb dX6_plan_47 rfl (lv_at hl 1 rfl) ?_
    refine gf_X6_26 C0 hH dX6_plan_48 ?_
    refine gf_X6_173 C0 hH dX6_plan_51 ?_
    refine lv_iload_n zx zb dX6_plan_54 rfl (lv_at hl 2 rfl) ?_
    refine al_11 C0 hH (by omega) (by omega) dX6_plan_55 ?_
    refine lv_istore (lv' := [(6, .int (iI (S 11 f))), (5, .int (iI (15 * h + d))), (0, .ref (g.1 0)), (1, .int (iI f)), (2, .int (iI lat)), (3, .int (iI d)), (4, .int (iI h))]) zx zb dX6_plan_56 hl (by decide) rfl (fun ls hl => ?_)
    refine lv_iload zx zb dX6_plan_58 (lv_at hl 0 rfl) ?_
    refine bi_const (n := (-1)) zx zb dX6_plan_60 ?_
    refine bq_ne (tgt := 74) zx zb dX6_plan_61 (by decide) ⟨by omega, by omega⟩ ⟨by omega, by omega⟩ (fun zq61 => ?_) (fun zq61 => ?_)
    · refine lv_aload_n zx zb dX6_plan_74 rfl (lv_at hl 2 rfl) ?_
      refine gf_X6_33 C0 hH dX6_plan_75 ?_
      refine gf_X6_205 C0 hH dX6_plan_78 ?_
      refine bi_bip (n := 12) zx zb dX6_plan_81 (by decide) ?_
      refine bq_lt (tgt := 96) zx zb dX6_plan_83 (by decide) ⟨by omega, by omega⟩ ⟨by omega, by omega⟩ (fun zq83 => ?_) (fun zq83 => ?_)
      · exact absurd ⟨b1 zq34, zq61, zq83⟩ hbad
      · exact thG (text := "there are 12 shows") (names := ["java/lang/RuntimeException", "java/lang/Exception"]) hfl C0 htab hlk hH rfl (by decide +kernel) (by decide +kernel) (gm 259 (by decide +kernel) rfl) (gm 30 (by decide +kernel) rfl) (List.mem_of_getElem? (i := 551) (by decide +kernel)) (atS_ISE C0.2.2.2.2.1) gdS_ISE hl.1 dX6_plan_86 dX6_plan_89 dX6_plan_90 dX6_plan_92 dX6_plan_95 (by decide) (Nat.le_of_ble_eq_true rfl) (by decide) (by decide)
    · exact thG (text := "the figure has no name") (names := ["java/lang/RuntimeException", "java/lang/Exception"]) hfl C0 htab hlk hH rfl (by decide +kernel) (by decide +kernel) (gm 259 (by decide +kernel) rfl) (gm 30 (by decide +kernel) rfl) (List.mem_of_getElem? (i := 550) (by decide +kernel)) (atS_ISE C0.2.2.2.2.1) gdS_ISE hl.1 dX6_plan_64 dX6_plan_67 dX6_plan_68 dX6_plan_70 dX6_plan_73 (by decide) (Nat.le_of_ble_eq_true rfl) (by decide) (by decide)
  · exact thG (text := "the figure is not up then") (names := ["java/lang/RuntimeException", "java/lang/Exception"]) hfl C0 htab hlk hH rfl (by decide +kernel) (by decide +kernel) (gm 259 (by decide +kernel) rfl) (gm 30 (by decide +kernel) rfl) (List.mem_of_getElem? (i := 549) (by decide +kernel)) (atS_ISE C0.2.2.2.2.1) gdS_ISE hl.1 dX6_plan_37 dX6_plan_40 dX6_plan_41 dX6_plan_43 dX6_plan_46 (by decide) (Nat.le_of_ble_eq_true rfl) (by decide) (by decide)
set_option maxRecDepth 100000 in
set_option maxHeartbeats 4000000 in
theorem c_X6_isWrong (l : Launch) (g : gT) (S : gSt) (i : Int) (hsc : 0 ≤ S 12 0 ∧ S 12 0 ≤ 12) (hio : 0 ≤ i ∧ i < S 12 0) (hN : okN (S 5)) (hE : okE (S 5) (S 6)) (hO : okE (S 5) (S 7)) (hC : okC (S 2) (S 3)) (hG : okG (S 11)) (hP : okP (S 13) (S 14) (S 15) (S 16)) : MetG l g yX6_isWrong cX6_isWrong 2 (some .boolean) 6 142 [.ref (g.1 0), .int (iI i)] S (some (.int (iI (if swB S i = true then 1 else 0)))) S := by
  refine bodyG (by decide +kernel) (Nat.le_of_ble_eq_true rfl) ?_
  intro p e s m args below meth c ls C0 hret hlk hl hH
  have zx := C0.1
  have zb := C0.2.1
  have hl : lv_has ls 2 [(0, .ref (g.1 0)), (1, .int (iI i))] := hl
  obtain ⟨H, hHe⟩ : ∃ H : Heap, H = s.heap := ⟨_, rfl⟩
  rw [show (Hp g S s s.heap []) = Hp g S s H [] by rw [hHe]] at hH
  rw [← hHe]
  refine lv_iload_n zx zb dX6_isWrong_0 rfl (lv_at hl 1 rfl) ?_
  refine bz_lt (tgt := 15) zx zb dX6_isWrong_1 (by decide) ⟨by omega, by omega⟩ (fun zq1 => ?_) (fun zq1 => ?_)
  · exact absurd zq1 (by omega)
  · refine lv_iload_n zx zb dX6_isWrong_4 rfl (lv_at hl 1 rfl) ?_
    refine lv_aload_n zx zb dX6_isWrong_5 rfl (lv_at hl 0 rfl) ?_
    refine gf_X6_33 C0 hH dX6_isWrong_6 ?_
    refine gf_X6_205 C0 hH dX6_isWrong_9 ?_
    refine bq_lt (tgt := 25) zx zb dX6_isWrong_12 (by decide) ⟨by omega, by omega⟩ ⟨by omega, by omega⟩ (fun zq12 => ?_) (fun zq12 => ?_)
    · refine lv_aload_n zx zb dX6_isWrong_25 rfl (lv_at hl 0 rfl) ?_
      refine lv_iload_n zx zb dX6_isWrong_26 rfl (lv_at hl 1 rfl) ?_
      refine cvI (rest := []) (As := [.int (iI i)]) (b := g.1 0) C0 hH (c_X6_showIsWrong l g S i (by omega) (hN) (hE) (hO) (hC) (hG) (hP)) kw_X6_215 ky_X6_showIsWrong ⟨Nat.le_of_ble_eq_true rfl, Nat.le_of_ble_eq_true rfl⟩ ⟨Nat.zero_le _, Nat.zero_le _⟩ 0 rfl rfl rfl hl.1 rfl (Nat.le_of_ble_eq_true rfl) dX6_isWrong_27 (fun H locs hH => ?_)
      exact retZ C0 hret hlk hH (by rfl) (by exact bI_b _) (rfl) dX6_isWrong_30
    · exact absurd zq12 (by omega)
set_option maxRecDepth 100000 in
set_option maxHeartbeats 4000000 in
theorem x1_X6_isWrong (l : Launch) (g : gT) (S : gSt) (i : Int) (hsc : 0 ≤ S 12 0 ∧ S 12 0 ≤ 12) (hr_i : -2147483648 ≤ i ∧ i < 2147483648) (hbad : ¬(0 ≤ i ∧ i < S 12 0)) (hfl : l.stackTraces = false) : ThrG l g yX6_isWrong cX6_isWrong 2 (some .boolean) 6 85 [.ref (g.1 0), .int (iI i)] S "java/lang/IndexOutOfBoundsException" S := by
  refine bodyX (by decide +kernel) (Nat.le_of_ble_eq_true rfl) ?_
  intro p e s m args below meth c ls C0 htab hlk hl hH
  have zx := C0.1
  have zb := C0.2.1
  have hl : lv_has ls 2 [(0, .ref (g.1 0)), (1, .int (iI i))] := hl
  obtain ⟨H, hHe⟩ : ∃ H : Heap, H = s.heap := ⟨_, rfl⟩
  rw [show (Hp g S s s.heap []) = Hp g S s H [] by rw [hHe]] at hH
  rw [← hHe]
  refine lv_iload_n zx zb dX6_isWrong_0 rfl (lv_at hl 1 rfl) ?_
  refine bz_lt (tgt := 15) zx zb dX6_isWrong_1 (by decide) ⟨by omega, by omega⟩ (fun zq1 => ?_) (fun zq1 => ?_)
  · exact thG (text := "no such show") (names := ["java/lang/RuntimeException", "java/lang/Exception"]) hfl C0 htab hlk hH rfl (by decide +kernel) (by decide +kernel) (gm 291 (by decide +kernel) rfl) (gm 31 (by decide +kernel) rfl) (List.mem_of_getElem? (i := 495) (by decide +kernel)) (atS_IOE C0.2.2.2.2.1) gdS_IOE hl.1 dX6_isWrong_15 dX6_isWrong_18 dX6_isWrong_19 dX6_isWrong_21 dX6_isWrong_24 (by decide) (Nat.le_of_ble_eq_true rfl) (by decide) (by decide)
  · refine lv_iload_n zx zb dX6_isWrong_4 rfl (lv_at hl 1 rfl) ?_
    refine lv_aload_n zx zb dX6_isWrong_5 rfl (lv_at hl 0 rfl) ?_
    refine gf_X6_33 C0 hH dX6_isWrong_6 ?_
    refine gf_X6_205 C0 hH dX6_isWrong_9 ?_
    refine bq_lt (tgt := 25) zx zb dX6_isWrong_12 (by decide) ⟨by omega, by omega⟩ ⟨by omega, by omega⟩ (fun zq12 => ?_) (fun zq12 => ?_)
    · exact absurd zq12 (by omega)
    · exact thG (text := "no such show") (names := ["java/lang/RuntimeException", "java/lang/Exception"]) hfl C0 htab hlk hH rfl (by decide +kernel) (by decide +kernel) (gm 291 (by decide +kernel) rfl) (gm 31 (by decide +kernel) rfl) (List.mem_of_getElem? (i := 495) (by decide +kernel)) (atS_IOE C0.2.2.2.2.1) gdS_IOE hl.1 dX6_isWrong_15 dX6_isWrong_18 dX6_isWrong_19 dX6_isWrong_21 dX6_isWrong_24 (by decide) (Nat.le_of_ble_eq_true rfl) (by decide) (by decide)
set_option maxRecDepth 100000 in
set_option maxHeartbeats 4000000 in
theorem c_X6_wrong (l : Launch) (g : gT) (S : gSt) (hN : okN (S 5)) (hE : okE (S 5) (S 6)) (hO : okE (S 5) (S 7)) (hC : okC (S 2) (S 3)) (hG : okG (S 11)) (hP : okP (S 13) (S 14) (S 15) (S 16)) (hsc : 0 ≤ S 12 0 ∧ S 12 0 ≤ 12) : MetG l g yX6_wrong cX6_wrong 1 (some .int) 7 164 [.ref (g.1 0)] S (some (.int (iI (wrI S)))) S := by
  refine bodyG (by decide +kernel) (Nat.le_of_ble_eq_true rfl) ?_
  intro p e s m args below meth c ls C0 hret hlk hl hH
  have zx := C0.1
  have zb := C0.2.1
  have hl : lv_has ls 1 [(0, .ref (g.1 0))] := hl
  obtain ⟨H, hHe⟩ : ∃ H : Heap, H = s.heap := ⟨_, rfl⟩
  rw [show (Hp g S s s.heap []) = Hp g S s H [] by rw [hHe]] at hH
  rw [← hHe]
  refine lv_aload_n zx zb dX6_wrong_0 rfl (lv_at hl 0 rfl) ?_
  refine cvI (rest := []) (As := []) (b := g.1 0) C0 hH (c_X6_countWrongShows l g S (hN) (hE) (hO) (hC) (hG) (hP) (by omega)) kw_X6_82 ky_X6_countWrongShows ⟨Nat.le_of_ble_eq_true rfl, Nat.le_of_ble_eq_true rfl⟩ ⟨Nat.zero_le _, Nat.zero_le _⟩ 0 rfl rfl rfl hl.1 rfl (Nat.le_of_ble_eq_true rfl) dX6_wrong_1 (fun H locs hH => ?_)
  exact retI C0 hret hlk hH (by rfl) (rfl) dX6_wrong_4
end
section
set_option maxRecDepth 100000 in
set_option maxHeartbeats 4000000 in
theorem c_X6_addStar (l : Launch) (g : gT) (S : gSt) (a u : Int) (hpo : (0 ≤ a ∧ a < 360) ∧ (-90 ≤ u ∧ u ≤ 90)) (hn : 0 ≤ S 1 0 ∧ S 1 0 < 24) : MetG l g yX6_addStar cX6_addStar 3 (some .int) 2 46 [.ref (g.1 0), .int (iI a), .int (iI u)] S (some (.int (iI (S 1 0)))) (adS S a u) := by
  refine bodyG (by decide +kernel) (Nat.le_of_ble_eq_true rfl) ?_
  intro p e s m args below meth c ls C0 hret hlk hl hH
  have zx := C0.1
  have zb := C0.2.1
  have hl : lv_has ls 3 [(0, .ref (g.1 0)), (1, .int (iI a)), (2, .int (iI u))] := hl
  obtain ⟨H, hHe⟩ : ∃ H : Heap, H = s.heap := ⟨_, rfl⟩
  rw [show (Hp g S s s.heap []) = Hp g S s H [] by rw [hHe]] at hH
  rw [← hHe]
  refine lv_iload_n zx zb dX6_addStar_0 rfl (lv_at hl 1 rfl) ?_
  refine lv_iload_n zx zb dX6_addStar_1 rfl (lv_at hl 2 rfl) ?_
  refine csN (rest := []) (As := [.int (iI a), .int (iI u)]) C0 hH (c_X6_needPlace l g S a u (by omega)) kw_X6_44 ky_X6_needPlace ⟨Nat.le_of_ble_eq_true rfl, Nat.le_of_ble_eq_true rfl⟩ ⟨Nat.zero_le _, Nat.zero_le _⟩ rfl hl.1 rfl (Nat.le_of_ble_eq_true rfl) dX6_addStar_2 (fun H locs hH => ?_)
  refine lv_aload_n zx zb dX6_addStar_5 rfl (lv_at hl 0 rfl) ?_
  refine gf_X6_12 C0 hH dX6_addStar_6 ?_
  refine gf_X6_48 C0 hH dX6_addStar_9 ?_
  refine bi_bip (n := 24) zx zb dX6_addStar_12 (by decide) ?_
  refine bq_lt (tgt := 27) zx zb dX6_addStar_14 (by decide) ⟨by omega, by omega⟩ ⟨by omega, by omega⟩ (fun zq14 => ?_) (fun zq14 => ?_)
  · refine lv_aload_n zx zb dX6_addStar_27 rfl (lv_at hl 0 rfl) ?_
    refine gf_X6_12 C0 hH dX6_addStar_28 ?_
    refine lv_iload_n zx zb dX6_addStar_31 rfl (lv_at hl 1 rfl) ?_
    refine lv_iload_n zx zb dX6_addStar_32 rfl (lv_at hl 2 rfl) ?_
    refine cvI (rest := []) (As := [.int (iI a), .int (iI u)]) (b := g.1 1) C0 hH (c_X2_append l g S a u (by omega)) kw_X6_59 ky_X2_append ⟨Nat.le_of_ble_eq_true rfl, Nat.le_of_ble_eq_true rfl⟩ ⟨Nat.zero_le _, Nat.zero_le _⟩ 1 rfl rfl rfl hl.1 rfl (Nat.le_of_ble_eq_true rfl) dX6_addStar_33 (fun H locs hH => ?_)
    exact retI C0 hret hlk hH (by rfl) (rfl) dX6_addStar_36
  · exact absurd zq14 (by omega)
set_option maxRecDepth 100000 in
set_option maxHeartbeats 4000000 in
theorem x1_X6_addStar (l : Launch) (g : gT) (S : gSt) (a u : Int) (hr_a : -2147483648 ≤ a ∧ a < 2147483648) (hr_u : -2147483648 ≤ u ∧ u < 2147483648) (hbad : ¬((0 ≤ a ∧ a < 360) ∧ (-90 ≤ u ∧ u ≤ 90))) (hfl : l.stackTraces = false) : ThrG l g yX6_addStar cX6_addStar 3 (some .int) 7 106 [.ref (g.1 0), .int (iI a), .int (iI u)] S "java/lang/IllegalArgumentException" S := by
  refine bodyX (by decide +kernel) (Nat.le_of_ble_eq_true rfl) ?_
  intro p e s m args below meth c ls C0 htab hlk hl hH
  have zx := C0.1
  have zb := C0.2.1
  have hl : lv_has ls 3 [(0, .ref (g.1 0)), (1, .int (iI a)), (2, .int (iI u))] := hl
  obtain ⟨H, hHe⟩ : ∃ H : Heap, H = s.heap := ⟨_, rfl⟩
  rw [show (Hp g S s s.heap []) = Hp g S s H [] by rw [hHe]] at hH
  rw [← hHe]
  refine lv_iload_n zx zb dX6_addStar_0 rfl (lv_at hl 1 rfl) ?_
  refine lv_iload_n zx zb dX6_addStar_1 rfl (lv_at hl 2 rfl) ?_
  exact csX (rest := []) (As := [.int (iI a), .int (iI u)]) C0 htab hlk hH (x_X6_needPlace l g S a u (by omega) (by omega) (by omega) hfl) kw_X6_44 ky_X6_needPlace ⟨Nat.le_of_ble_eq_true rfl, Nat.le_of_ble_eq_true rfl⟩ ⟨Nat.le_of_ble_eq_true rfl, Nat.le_of_ble_eq_true rfl⟩ rfl hl.1 rfl (Nat.le_of_ble_eq_true rfl) dX6_addStar_2
set_option maxRecDepth 100000 in
set_option maxHeartbeats 4000000 in
theorem x2_X6_addStar (l : Launch) (g : gT) (S : gSt) (a u : Int) (hpo : (0 ≤ a ∧ a < 360) ∧ (-90 ≤ u ∧ u ≤ 90)) (hn : S 1 0 = 24) (hfl : l.stackTraces = false) : ThrG l g yX6_addStar cX6_addStar 3 (some .int) 6 85 [.ref (g.1 0), .int (iI a), .int (iI u)] S "java/lang/IllegalStateException" S := by
  refine bodyX (by decide +kernel) (Nat.le_of_ble_eq_true rfl) ?_
  intro p e s m args below meth c ls C0 htab hlk hl hH
  have zx := C0.1
  have zb := C0.2.1
  have hl : lv_has ls 3 [(0, .ref (g.1 0)), (1, .int (iI a)), (2, .int (iI u))] := hl
  obtain ⟨H, hHe⟩ : ∃ H : Heap, H = s.heap := ⟨_, rfl⟩
  rw [show (Hp g S s s.heap []) = Hp g S s H [] by rw [hHe]] at hH
  rw [← hHe]
  refine lv_iload_n zx zb dX6_addStar_0 rfl (lv_at hl 1 rfl) ?_
  refine lv_iload_n zx zb dX6_addStar_1 rfl (lv_at hl 2 rfl) ?_
  refine csN (rest := []) (As := [.int (iI a), .int (iI u)]) C0 hH (c_X6_needPlace l g S a u (by omega)) kw_X6_44 ky_X6_needPlace ⟨Nat.le_of_ble_eq_true rfl, Nat.le_of_ble_eq_true rfl⟩ ⟨Nat.zero_le _, Nat.zero_le _⟩ rfl hl.1 rfl (Nat.le_of_ble_eq_true rfl) dX6_addStar_2 (fun H locs hH => ?_)
  refine lv_aload_n zx zb dX6_addStar_5 rfl (lv_at hl 0 rfl) ?_
  refine gf_X6_12 C0 hH dX6_addStar_6 ?_
  refine gf_X6_48 C0 hH dX6_addStar_9 ?_
  refine bi_bip (n := 24) zx zb dX6_addStar_12 (by decide) ?_
  refine bq_lt (tgt := 27) zx zb dX6_addStar_14 (by decide) ⟨by omega, by omega⟩ ⟨by omega, by omega⟩ (fun zq14 => ?_) (fun zq14 => ?_)
  · exact absurd zq14 (by omega)
  · exact thG (text := "there are 24 stars") (names := ["java/lang/RuntimeException", "java/lang/Exception"]) hfl C0 htab hlk hH rfl (by decide +kernel) (by decide +kernel) (gm 259 (by decide +kernel) rfl) (gm 30 (by decide +kernel) rfl) (List.mem_of_getElem? (i := 268) (by decide +kernel)) (atS_ISE C0.2.2.2.2.1) gdS_ISE hl.1 dX6_addStar_17 dX6_addStar_20 dX6_addStar_21 dX6_addStar_23 dX6_addStar_26 (by decide) (Nat.le_of_ble_eq_true rfl) (by decide) (by decide)
set_option maxRecDepth 100000 in
set_option maxHeartbeats 4000000 in
theorem c_X6_correct (l : Launch) (g : gT) (S : gSt) (z a u : Int) (hn1 : 0 ≤ S 1 0 ∧ S 1 0 ≤ 24) (hzo : 0 ≤ z ∧ z < S 1 0) (hpo : (0 ≤ a ∧ a < 360) ∧ (-90 ≤ u ∧ u ≤ 90)) (hh0 : 0 ≤ S 17 0 ∧ S 17 0 < 30) (hh1 : 0 ≤ S 17 1 ∧ S 17 1 ≤ 30) (hN : okN (S 5)) (hE : okE (S 5) (S 6)) (hO : okE (S 5) (S 7)) (hC : okC (S 2) (S 3)) (hG : okG (S 11)) (hP : okP (S 13) (S 14) (S 15) (S 16)) (hsc : 0 ≤ S 12 0 ∧ S 12 0 ≤ 12) : MetG l g yX6_correct cX6_correct 4 (some .int) 7 164 [.ref (g.1 0), .int (iI z), .int (iI a), .int (iI u)] S (some (.int (iI (wrI (mvS (kpS S 0 z 0 (S 2 z) (S 3 z)) z a u))))) (mvS (kpS S 0 z 0 (S 2 z) (S 3 z)) z a u) := by
  refine bodyG (by decide +kernel) (Nat.le_of_ble_eq_true rfl) ?_
  intro p e s m args below meth c ls C0 hret hlk hl hH
  have zx := C0.1
  have zb := C0.2.1
  have hl : lv_has ls 4 [(0, .ref (g.1 0)), (1, .int (iI z)), (2, .int (iI a)), (3, .int (iI u))] := hl
  obtain ⟨H, hHe⟩ : ∃ H : Heap, H = s.heap := ⟨_, rfl⟩
  rw [show (Hp g S s s.heap []) = Hp g S s H [] by rw [hHe]] at hH
  rw [← hHe]
  refine lv_aload_n zx zb dX6_correct_0 rfl (lv_at hl 0 rfl) ?_
  refine lv_iload_n zx zb dX6_correct_1 rfl (lv_at hl 1 rfl) ?_
  refine cvN (rest := []) (As := [.int (iI z)]) (b := g.1 0) C0 hH (c_X6_needStar l g S z (by omega) (by omega)) kw_X6_63 ky_X6_needStar ⟨Nat.le_of_ble_eq_true rfl, Nat.le_of_ble_eq_true rfl⟩ ⟨Nat.zero_le _, Nat.zero_le _⟩ 0 rfl rfl rfl hl.1 rfl (Nat.le_of_ble_eq_true rfl) dX6_correct_2 (fun H locs hH => ?_)
  refine lv_iload_n zx zb dX6_correct_5 rfl (lv_at hl 2 rfl) ?_
  refine lv_iload_n zx zb dX6_correct_6 rfl (lv_at hl 3 rfl) ?_
  refine csN (rest := []) (As := [.int (iI a), .int (iI u)]) C0 hH (c_X6_needPlace l g S a u (by omega)) kw_X6_44 ky_X6_needPlace ⟨Nat.le_of_ble_eq_true rfl, Nat.le_of_ble_eq_true rfl⟩ ⟨Nat.zero_le _, Nat.zero_le _⟩ rfl hl.1 rfl (Nat.le_of_ble_eq_true rfl) dX6_correct_7 (fun H locs hH => ?_)
  refine lv_aload_n zx zb dX6_correct_10 rfl (lv_at hl 0 rfl) ?_
  refine gf_X6_40 C0 hH dX6_correct_11 ?_
  refine bi_const (n := 0) zx zb dX6_correct_14 ?_
  refine lv_iload_n zx zb dX6_correct_15 rfl (lv_at hl 1 rfl) ?_
  refine bi_const (n := 0) zx zb dX6_correct_16 ?_
  refine lv_aload_n zx zb dX6_correct_17 rfl (lv_at hl 0 rfl) ?_
  refine gf_X6_12 C0 hH dX6_correct_18 ?_
  refine gf_X6_67 C0 hH dX6_correct_21 ?_
  refine lv_iload_n zx zb dX6_correct_24 rfl (lv_at hl 1 rfl) ?_
  refine al_2 C0 hH (by omega) (by omega) dX6_correct_25 ?_
  refine lv_aload_n zx zb dX6_correct_26 rfl (lv_at hl 0 rfl) ?_
  refine gf_X6_12 C0 hH dX6_correct_27 ?_
  refine gf_X6_71 C0 hH dX6_correct_30 ?_
  refine lv_iload_n zx zb dX6_correct_33 rfl (lv_at hl 1 rfl) ?_
  refine al_3 C0 hH (by omega) (by omega) dX6_correct_34 ?_
  refine cvN (rest := []) (As := [.int (iI 0), .int (iI z), .int (iI 0), .int (iI (S 2 z)), .int (iI (S 3 z))]) (b := g.1 17) C0 hH (c_X3_keep l g S 0 z 0 (S 2 z) (S 3 z) (by omega) (by omega)) kw_X6_74 ky_X3_keep ⟨Nat.le_of_ble_eq_true rfl, Nat.le_of_ble_eq_true rfl⟩ ⟨Nat.zero_le _, Nat.zero_le _⟩ 17 rfl rfl rfl hl.1 rfl (Nat.le_of_ble_eq_true rfl) dX6_correct_35 (fun H locs hH => ?_)
  refine lv_aload_n zx zb dX6_correct_38 rfl (lv_at hl 0 rfl) ?_
  refine gf_X6_12 C0 hH dX6_correct_39 ?_
  refine lv_iload_n zx zb dX6_correct_42 rfl (lv_at hl 1 rfl) ?_
  refine lv_iload_n zx zb dX6_correct_43 rfl (lv_at hl 2 rfl) ?_
  refine lv_iload_n zx zb dX6_correct_44 rfl (lv_at hl 3 rfl) ?_
  refine cvN (rest := []) (As := [.int (iI z), .int (iI a), .int (iI u)]) (b := g.1 1) C0 hH (c_X2_move l g (kpS S 0 z 0 (S 2 z) (S 3 z)) z a u (by omega)) kw_X6_78 ky_X2_move ⟨Nat.le_of_ble_eq_true rfl, Nat.le_of_ble_eq_true rfl⟩ ⟨Nat.zero_le _, Nat.zero_le _⟩ 1 rfl rfl rfl hl.1 rfl (Nat.le_of_ble_eq_true rfl) dX6_correct_45 (fun H locs hH => ?_)
  refine lv_aload_n zx zb dX6_correct_48 rfl (lv_at hl 0 rfl) ?_
  refine cvI (rest := []) (As := []) (b := g.1 0) C0 hH (c_X6_countWrongShows l g (mvS (kpS S 0 z 0 (S 2 z) (S 3 z)) z a u) (hN) (hE) (hO) (okC_mv (z := z) hC hpo.1 hpo.2) (hG) (hP) (hsc)) kw_X6_82 ky_X6_countWrongShows ⟨Nat.le_of_ble_eq_true rfl, Nat.le_of_ble_eq_true rfl⟩ ⟨Nat.zero_le _, Nat.zero_le _⟩ 0 rfl rfl rfl hl.1 rfl (Nat.le_of_ble_eq_true rfl) dX6_correct_49 (fun H locs hH => ?_)
  exact retI C0 hret hlk hH (by rfl) (rfl) dX6_correct_52
set_option maxRecDepth 100000 in
set_option maxHeartbeats 4000000 in
theorem x1_X6_correct (l : Launch) (g : gT) (S : gSt) (z a u : Int) (hn1 : 0 ≤ S 1 0 ∧ S 1 0 ≤ 24) (hr_z : -2147483648 ≤ z ∧ z < 2147483648) (hr_a : -2147483648 ≤ a ∧ a < 2147483648) (hr_u : -2147483648 ≤ u ∧ u < 2147483648) (hzb : ¬(0 ≤ z ∧ z < S 1 0)) (hfl : l.stackTraces = false) : ThrG l g yX6_correct cX6_correct 4 (some .int) 7 106 [.ref (g.1 0), .int (iI z), .int (iI a), .int (iI u)] S "java/lang/IndexOutOfBoundsException" S := by
  refine bodyX (by decide +kernel) (Nat.le_of_ble_eq_true rfl) ?_
  intro p e s m args below meth c ls C0 htab hlk hl hH
  have zx := C0.1
  have zb := C0.2.1
  have hl : lv_has ls 4 [(0, .ref (g.1 0)), (1, .int (iI z)), (2, .int (iI a)), (3, .int (iI u))] := hl
  obtain ⟨H, hHe⟩ : ∃ H : Heap, H = s.heap := ⟨_, rfl⟩
  rw [show (Hp g S s s.heap []) = Hp g S s H [] by rw [hHe]] at hH
  rw [← hHe]
  refine lv_aload_n zx zb dX6_correct_0 rfl (lv_at hl 0 rfl) ?_
  refine lv_iload_n zx zb dX6_correct_1 rfl (lv_at hl 1 rfl) ?_
  exact cvX (rest := []) (As := [.int (iI z)]) (b := g.1 0) C0 htab hlk hH (x_X6_needStar l g S z (by omega) (by omega) (by omega) hfl) kw_X6_63 ky_X6_needStar ⟨Nat.le_of_ble_eq_true rfl, Nat.le_of_ble_eq_true rfl⟩ ⟨Nat.le_of_ble_eq_true rfl, Nat.le_of_ble_eq_true rfl⟩ 0 rfl rfl rfl hl.1 rfl (Nat.le_of_ble_eq_true rfl) dX6_correct_2
set_option maxRecDepth 100000 in
set_option maxHeartbeats 4000000 in
theorem x2_X6_correct (l : Launch) (g : gT) (S : gSt) (z a u : Int) (hn1 : 0 ≤ S 1 0 ∧ S 1 0 ≤ 24) (hzo : 0 ≤ z ∧ z < S 1 0) (hr_a : -2147483648 ≤ a ∧ a < 2147483648) (hr_u : -2147483648 ≤ u ∧ u < 2147483648) (hbad : ¬((0 ≤ a ∧ a < 360) ∧ (-90 ≤ u ∧ u ≤ 90))) (hfl : l.stackTraces = false) : ThrG l g yX6_correct cX6_correct 4 (some .int) 7 106 [.ref (g.1 0), .int (iI z), .int (iI a), .int (iI u)] S "java/lang/IllegalArgumentException" S := by
  refine bodyX (by decide +kernel) (Nat.le_of_ble_eq_true rfl) ?_
  intro p e s m args below meth c ls C0 htab hlk hl hH
  have zx := C0.1
  have zb := C0.2.1
  have hl : lv_has ls 4 [(0, .ref (g.1 0)), (1, .int (iI z)), (2, .int (iI a)), (3, .int (iI u))] := hl
  obtain ⟨H, hHe⟩ : ∃ H : Heap, H = s.heap := ⟨_, rfl⟩
  rw [show (Hp g S s s.heap []) = Hp g S s H [] by rw [hHe]] at hH
  rw [← hHe]
  refine lv_aload_n zx zb dX6_correct_0 rfl (lv_at hl 0 rfl) ?_
  refine lv_iload_n zx zb dX6_correct_1 rfl (lv_at hl 1 rfl) ?_
  refine cvN (rest := []) (As := [.int (iI z)]) (b := g.1 0) C0 hH (c_X6_needStar l g S z (by omega) (by omega)) kw_X6_63 ky_X6_needStar ⟨Nat.le_of_ble_eq_true rfl, Nat.le_of_ble_eq_true rfl⟩ ⟨Nat.zero_le _, Nat.zero_le _⟩ 0 rfl rfl rfl hl.1 rfl (Nat.le_of_ble_eq_true rfl) dX6_correct_2 (fun H locs hH => ?_)
  refine lv_iload_n zx zb dX6_correct_5 rfl (lv_at hl 2 rfl) ?_
  refine lv_iload_n zx zb dX6_correct_6 rfl (lv_at hl 3 rfl) ?_
  exact csX (rest := []) (As := [.int (iI a), .int (iI u)]) C0 htab hlk hH (x_X6_needPlace l g S a u (by omega) (by omega) (by omega) hfl) kw_X6_44 ky_X6_needPlace ⟨Nat.le_of_ble_eq_true rfl, Nat.le_of_ble_eq_true rfl⟩ ⟨Nat.le_of_ble_eq_true rfl, Nat.le_of_ble_eq_true rfl⟩ rfl hl.1 rfl (Nat.le_of_ble_eq_true rfl) dX6_correct_7
set_option maxRecDepth 100000 in
set_option maxHeartbeats 4000000 in
theorem c_X6_addFigure (l : Launch) (g : gT) (S : gSt) (hn : 0 ≤ S 4 0 ∧ S 4 0 < 8) : MetG l g yX6_addFigure cX6_addFigure 1 (some .int) 1 21 [.ref (g.1 0)] S (some (.int (iI (S 4 0)))) (st S 4 0 (S 4 0 + 1)) := by
  refine bodyG (by decide +kernel) (Nat.le_of_ble_eq_true rfl) ?_
  intro p e s m args below meth c ls C0 hret hlk hl hH
  have zx := C0.1
  have zb := C0.2.1
  have hl : lv_has ls 1 [(0, .ref (g.1 0))] := hl
  obtain ⟨H, hHe⟩ : ∃ H : Heap, H = s.heap := ⟨_, rfl⟩
  rw [show (Hp g S s s.heap []) = Hp g S s H [] by rw [hHe]] at hH
  rw [← hHe]
  refine lv_aload_n zx zb dX6_addFigure_0 rfl (lv_at hl 0 rfl) ?_
  refine gf_X6_19 C0 hH dX6_addFigure_1 ?_
  refine gf_X6_86 C0 hH dX6_addFigure_4 ?_
  refine bi_bip (n := 8) zx zb dX6_addFigure_7 (by decide) ?_
  refine bq_lt (tgt := 22) zx zb dX6_addFigure_9 (by decide) ⟨by omega, by omega⟩ ⟨by omega, by omega⟩ (fun zq9 => ?_) (fun zq9 => ?_)
  · refine lv_aload_n zx zb dX6_addFigure_22 rfl (lv_at hl 0 rfl) ?_
    refine gf_X6_19 C0 hH dX6_addFigure_23 ?_
    refine cvI (rest := []) (As := []) (b := g.1 4) C0 hH (c_X5_appendFigure l g S (by omega)) kw_X6_91 ky_X5_appendFigure ⟨Nat.le_of_ble_eq_true rfl, Nat.le_of_ble_eq_true rfl⟩ ⟨Nat.zero_le _, Nat.zero_le _⟩ 4 rfl rfl rfl hl.1 rfl (Nat.le_of_ble_eq_true rfl) dX6_addFigure_26 (fun H locs hH => ?_)
    exact retI C0 hret hlk hH (by rfl) (rfl) dX6_addFigure_29
  · exact absurd zq9 (by omega)
set_option maxRecDepth 100000 in
set_option maxHeartbeats 4000000 in
theorem x1_X6_addFigure (l : Launch) (g : gT) (S : gSt) (hn : S 4 0 = 8) (hfl : l.stackTraces = false) : ThrG l g yX6_addFigure cX6_addFigure 1 (some .int) 6 85 [.ref (g.1 0)] S "java/lang/IllegalStateException" S := by
  refine bodyX (by decide +kernel) (Nat.le_of_ble_eq_true rfl) ?_
  intro p e s m args below meth c ls C0 htab hlk hl hH
  have zx := C0.1
  have zb := C0.2.1
  have hl : lv_has ls 1 [(0, .ref (g.1 0))] := hl
  obtain ⟨H, hHe⟩ : ∃ H : Heap, H = s.heap := ⟨_, rfl⟩
  rw [show (Hp g S s s.heap []) = Hp g S s H [] by rw [hHe]] at hH
  rw [← hHe]
  refine lv_aload_n zx zb dX6_addFigure_0 rfl (lv_at hl 0 rfl) ?_
  refine gf_X6_19 C0 hH dX6_addFigure_1 ?_
  refine gf_X6_86 C0 hH dX6_addFigure_4 ?_
  refine bi_bip (n := 8) zx zb dX6_addFigure_7 (by decide) ?_
  refine bq_lt (tgt := 22) zx zb dX6_addFigure_9 (by decide) ⟨by omega, by omega⟩ ⟨by omega, by omega⟩ (fun zq9 => ?_) (fun zq9 => ?_)
  · exact absurd zq9 (by omega)
  · exact thG (text := "there are 8 figures") (names := ["java/lang/RuntimeException", "java/lang/Exception"]) hfl C0 htab hlk hH rfl (by decide +kernel) (by decide +kernel) (gm 259 (by decide +kernel) rfl) (gm 30 (by decide +kernel) rfl) (List.mem_of_getElem? (i := 353) (by decide +kernel)) (atS_ISE C0.2.2.2.2.1) gdS_ISE hl.1 dX6_addFigure_12 dX6_addFigure_15 dX6_addFigure_16 dX6_addFigure_18 dX6_addFigure_21 (by decide) (Nat.le_of_ble_eq_true rfl) (by decide) (by decide)
set_option maxRecDepth 100000 in
set_option maxHeartbeats 4000000 in
theorem c_X6_draw (l : Launch) (g : gT) (S : gSt) (f a b : Int) (hn1 : 0 ≤ S 1 0 ∧ S 1 0 ≤ 24) (hnf : 0 ≤ S 4 0 ∧ S 4 0 ≤ 8) (hfo : 0 ≤ f ∧ f < S 4 0) (hao : 0 ≤ a ∧ a < S 1 0) (hbo : 0 ≤ b ∧ b < S 1 0) (hN : okN (S 5)) (hE : okE (S 5) (S 6)) (hO : okE (S 5) (S 7)) (hh0 : 0 ≤ S 17 0 ∧ S 17 0 < 30) (hh1 : 0 ≤ S 17 1 ∧ S 17 1 ≤ 30) (hab : a ≠ b) (h10 : S 5 f < 10) (hj : jnB (S 5) (S 6) (S 7) f a b = false) (hoa : ¬(owI (S 4 0) (S 5) (S 6) (S 7) a ≠ -1 ∧ owI (S 4 0) (S 5) (S 6) (S 7) a ≠ f)) (hob : ¬(owI (S 4 0) (S 5) (S 6) (S 7) b ≠ -1 ∧ owI (S 4 0) (S 5) (S 6) (S 7) b ≠ f)) : MetG l g yX6_draw cX6_draw 5 (some .int) 4 90 [.ref (g.1 0), .int (iI f), .int (iI a), .int (iI b)] S (some (.int (iI (S 5 f)))) (lnIn (kpS S 1 f (S 5 f) a b) 5 6 7 f (S 5 f) a b) := by
  refine bodyG (by decide +kernel) (Nat.le_of_ble_eq_true rfl) ?_
  intro p e s m args below meth c ls C0 hret hlk hl hH
  have zx := C0.1
  have zb := C0.2.1
  have hl : lv_has ls 5 [(0, .ref (g.1 0)), (1, .int (iI f)), (2, .int (iI a)), (3, .int (iI b))] := hl
  obtain ⟨H, hHe⟩ : ∃ H : Heap, H = s.heap := ⟨_, rfl⟩
  rw [show (Hp g S s s.heap []) = Hp g S s H [] by rw [hHe]] at hH
  rw [← hHe]
  refine lv_aload_n zx zb dX6_draw_0 rfl (lv_at hl 0 rfl) ?_
  refine lv_iload_n zx zb dX6_draw_1 rfl (lv_at hl 1 rfl) ?_
  refine cvN (rest := []) (As := [.int (iI f)]) (b := g.1 0) C0 hH (c_X6_needFigure l g S f (by omega) (by omega)) kw_X6_94 ky_X6_needFigure ⟨Nat.le_of_ble_eq_true rfl, Nat.le_of_ble_eq_true rfl⟩ ⟨Nat.zero_le _, Nat.zero_le _⟩ 0 rfl rfl rfl hl.1 rfl (Nat.le_of_ble_eq_true rfl) dX6_draw_2 (fun H locs hH => ?_)
  refine lv_aload_n zx zb dX6_draw_5 rfl (lv_at hl 0 rfl) ?_
  refine lv_iload_n zx zb dX6_draw_6 rfl (lv_at hl 2 rfl) ?_
  refine cvN (rest := []) (As := [.int (iI a)]) (b := g.1 0) C0 hH (c_X6_needStar l g S a (by omega) (by omega)) kw_X6_63 ky_X6_needStar ⟨Nat.le_of_ble_eq_true rfl, Nat.le_of_ble_eq_true rfl⟩ ⟨Nat.zero_le _, Nat.zero_le _⟩ 0 rfl rfl rfl hl.1 rfl (Nat.le_of_ble_eq_true rfl) dX6_draw_7 (fun H locs hH => ?_)
  refine lv_aload_n zx zb dX6_draw_10 rfl (lv_at hl 0 rfl) ?_
  refine lv_iload_n zx zb dX6_draw_11 rfl (lv_at hl 3 rfl) ?_
  refine cvN (rest := []) (As := [.int (iI b)]) (b := g.1 0) C0 hH (c_X6_needStar l g S b (by omega) (by omega)) kw_X6_63 ky_X6_needStar ⟨Nat.le_of_ble_eq_true rfl, Nat.le_of_ble_eq_true rfl⟩ ⟨Nat.zero_le _, Nat.zero_le _⟩ 0 rfl rfl rfl hl.1 rfl (Nat.le_of_ble_eq_true rfl) dX6_draw_12 (fun H locs hH => ?_)
  refine lv_iload_n zx zb dX6_draw_15 rfl (lv_at hl 2 rfl) ?_
  refine lv_iload_n zx zb dX6_draw_16 rfl (lv_at hl 3 rfl) ?_
  refine bq_ne (tgt := 30) zx zb dX6_draw_17 (by decide) ⟨by omega, by omega⟩ ⟨by omega, by omega⟩ (fun zq17 => ?_) (fun zq17 => ?_)
  · refine lv_aload_n zx zb dX6_draw_30 rfl (lv_at hl 0 rfl) ?_
    refine gf_X6_19 C0 hH dX6_draw_31 ?_
    have hn := hN f (by omega) (by omega)
    refine gf_X6_102 C0 hH dX6_draw_34 ?_
    refine lv_iload_n zx zb dX6_draw_37 rfl (lv_at hl 1 rfl) ?_
    refine al_5 C0 hH (by omega) (by omega) dX6_draw_38 ?_
    refine lv_istore (lv' := [(4, .int (iI (S 5 f))), (0, .ref (g.1 0)), (1, .int (iI f)), (2, .int (iI a)), (3, .int (iI b))]) zx zb dX6_draw_39 hl (by decide) rfl (fun ls hl => ?_)
    refine lv_iload zx zb dX6_draw_41 (lv_at hl 0 rfl) ?_
    refine bi_bip (n := 10) zx zb dX6_draw_43 (by decide) ?_
    refine bq_lt (tgt := 58) zx zb dX6_draw_45 (by decide) ⟨by omega, by omega⟩ ⟨by omega, by omega⟩ (fun zq45 => ?_) (fun zq45 => ?_)
    · refine lv_aload_n zx zb dX6_draw_58 rfl (lv_at hl 1 rfl) ?_
      refine gf_X6_19 C0 hH dX6_draw_59 ?_
      refine lv_iload_n zx zb dX6_draw_62 rfl (lv_at hl 2 rfl) ?_
      refine lv_iload_n zx zb dX6_draw_63 rfl (lv_at hl 3 rfl) ?_
      refine lv_iload_n zx zb dX6_draw_64 rfl (lv_at hl 4 rfl) ?_
      refine cvI (rest := []) (As := [.int (iI f), .int (iI a), .int (iI b)]) (b := g.1 4) C0 hH (c_X5_joins l g S f a b (by omega) (by omega) (by omega) (hN) (hE) (hO)) kw_X6_107 ky_X5_joins ⟨Nat.le_of_ble_eq_true rfl, Nat.le_of_ble_eq_true rfl⟩ ⟨Nat.zero_le _, Nat.zero_le _⟩ 4 rfl rfl rfl hl.1 rfl (Nat.le_of_ble_eq_true rfl) dX6_draw_65 (fun H locs hH => ?_)
      rw [hj]
      refine bz_eq (tgt := 81) zx zb dX6_draw_68 (by decide) ⟨by omega, by omega⟩ (fun zq68 => ?_) (fun zq68 => ?_)
      · refine lv_aload_n zx zb dX6_draw_81 rfl (lv_at hl 1 rfl) ?_
        refine gf_X6_19 C0 hH dX6_draw_82 ?_
        refine lv_iload_n zx zb dX6_draw_85 rfl (lv_at hl 2 rfl) ?_
        refine lv_iload_n zx zb dX6_draw_86 rfl (lv_at hl 3 rfl) ?_
        refine cvI (rest := []) (As := [.int (iI f), .int (iI a)]) (b := g.1 4) C0 hH (c_X5_isOfAnother l g S f a (by omega) (by omega) (by omega) (hN) (hE) (hO)) kw_X6_113 ky_X5_isOfAnother ⟨Nat.le_of_ble_eq_true rfl, Nat.le_of_ble_eq_true rfl⟩ ⟨Nat.zero_le _, Nat.zero_le _⟩ 4 rfl rfl rfl hl.1 rfl (Nat.le_of_ble_eq_true rfl) dX6_draw_87 (fun H locs hH => ?_)
        rw [if_neg hoa]
        refine bz_ne (tgt := 105) zx zb dX6_draw_90 (by decide) ⟨by omega, by omega⟩ (fun zq90 => ?_) (fun zq90 => ?_)
        · exact absurd zq90 (by decide)
        · refine lv_aload_n zx zb dX6_draw_93 rfl (lv_at hl 1 rfl) ?_
          refine gf_X6_19 C0 hH dX6_draw_94 ?_
          refine lv_iload_n zx zb dX6_draw_97 rfl (lv_at hl 2 rfl) ?_
          refine lv_iload_n zx zb dX6_draw_98 rfl (lv_at hl 4 rfl) ?_
          refine cvI (rest := []) (As := [.int (iI f), .int (iI b)]) (b := g.1 4) C0 hH (c_X5_isOfAnother l g S f b (by omega) (by omega) (by omega) (hN) (hE) (hO)) kw_X6_113 ky_X5_isOfAnother ⟨Nat.le_of_ble_eq_true rfl, Nat.le_of_ble_eq_true rfl⟩ ⟨Nat.zero_le _, Nat.zero_le _⟩ 4 rfl rfl rfl hl.1 rfl (Nat.le_of_ble_eq_true rfl) dX6_draw_99 (fun H locs hH => ?_)
          rw [if_neg hob]
          refine bz_eq (tgt := 115) zx zb dX6_draw_102 (by decide) ⟨by omega, by omega⟩ (fun zq102 => ?_) (fun zq102 => ?_)
          · refine lv_aload_n zx zb dX6_draw_115 rfl (lv_at hl 1 rfl) ?_
            refine gf_X6_40 C0 hH dX6_draw_116 ?_
            refine bi_const (n := 1) zx zb dX6_draw_119 ?_
            refine lv_iload_n zx zb dX6_draw_120 rfl (lv_at hl 2 rfl) ?_
            refine lv_iload zx zb dX6_draw_121 (lv_at hl 0 rfl) ?_
            refine lv_iload_n zx zb dX6_draw_123 rfl (lv_at hl 3 rfl) ?_
            refine lv_iload_n zx zb dX6_draw_124 rfl (lv_at hl 4 rfl) ?_
            refine cvN (rest := []) (As := [.int (iI 1), .int (iI f), .int (iI (S 5 f)), .int (iI a), .int (iI b)]) (b := g.1 17) C0 hH (c_X3_keep l g S 1 f (S 5 f) a b (by omega) (by omega)) kw_X6_74 ky_X3_keep ⟨Nat.le_of_ble_eq_true rfl, Nat.le_of_ble_eq_true rfl⟩ ⟨Nat.zero_le _, Nat.zero_le _⟩ 17 rfl rfl rfl hl.1 rfl (Nat.le_of_ble_eq_true rfl) dX6_draw_125 (fun H locs hH => ?_)
            refine lv_aload_n zx zb dX6_draw_128 rfl (lv_at hl 1 rfl) ?_
            refine gf_X6_19 C0 hH dX6_draw_129 ?_
            refine lv_iload_n zx zb dX6_draw_132 rfl (lv_at hl 2 rfl) ?_
            refine lv_iload zx zb dX6_draw_133 (lv_at hl 0 rfl) ?_
            refine lv_iload_n zx zb dX6_draw_135 rfl (lv_at hl 3 rfl) ?_
            refine lv_iload_n zx zb dX6_draw_136 rfl (lv_at hl 4 rfl) ?_
            refine cvN (rest := []) (As := [.int (iI f), .int (iI (S 5 f)), .int (iI a), .int (iI b)]) (b := g.1 4) C0 hH (c_X5_insert l g (kpS S 1 f (S 5 f) a b) f (S 5 f) a b (by omega) (by exact ⟨hn.1, Int.le_refl _⟩) (by exact h10)) kw_X6_119 ky_X5_insert ⟨Nat.le_of_ble_eq_true rfl, Nat.le_of_ble_eq_true rfl⟩ ⟨Nat.zero_le _, Nat.zero_le _⟩ 4 rfl rfl rfl hl.1 rfl (Nat.le_of_ble_eq_true rfl) dX6_draw_137 (fun H locs hH => ?_)
            refine lv_iload zx zb dX6_draw_140 (lv_at hl 0 rfl) ?_
            exact retI C0 hret hlk hH (by rfl) (rfl) dX6_draw_142
          · exact absurd zq102 (by decide)
      · exact absurd zq68 (by decide)
    · exact absurd zq45 (by omega)
  · exact absurd zq17 hab
set_option maxRecDepth 100000 in
set_option maxHeartbeats 4000000 in
theorem x1_X6_draw (l : Launch) (g : gT) (S : gSt) (f a b : Int) (hn1 : 0 ≤ S 1 0 ∧ S 1 0 ≤ 24) (hnf : 0 ≤ S 4 0 ∧ S 4 0 ≤ 8) (hr_f : -2147483648 ≤ f ∧ f < 2147483648) (hr_a : -2147483648 ≤ a ∧ a < 2147483648) (hr_b : -2147483648 ≤ b ∧ b < 2147483648) (hbad : ¬((0 ≤ f ∧ f < S 4 0) ∧ (0 ≤ a ∧ a < S 1 0) ∧ (0 ≤ b ∧ b < S 1 0))) (hfl : l.stackTraces = false) : ThrG l g yX6_draw cX6_draw 5 (some .int) 7 106 [.ref (g.1 0), .int (iI f), .int (iI a), .int (iI b)] S "java/lang/IndexOutOfBoundsException" S := by
  refine bodyX (by decide +kernel) (Nat.le_of_ble_eq_true rfl) ?_
  intro p e s m args below meth c ls C0 htab hlk hl hH
  have zx := C0.1
  have zb := C0.2.1
  have hl : lv_has ls 5 [(0, .ref (g.1 0)), (1, .int (iI f)), (2, .int (iI a)), (3, .int (iI b))] := hl
  obtain ⟨H, hHe⟩ : ∃ H : Heap, H = s.heap := ⟨_, rfl⟩
  rw [show (Hp g S s s.heap []) = Hp g S s H [] by rw [hHe]] at hH
  rw [← hHe]
  refine lv_aload_n zx zb dX6_draw_0 rfl (lv_at hl 0 rfl) ?_
  refine lv_iload_n zx zb dX6_draw_1 rfl (lv_at hl 1 rfl) ?_
  by_cases hc2 : 0 ≤ f ∧ f < S 4 0
  · refine cvN (rest := []) (As := [.int (iI f)]) (b := g.1 0) C0 hH (c_X6_needFigure l g S f (by omega) (by omega)) kw_X6_94 ky_X6_needFigure ⟨Nat.le_of_ble_eq_true rfl, Nat.le_of_ble_eq_true rfl⟩ ⟨Nat.zero_le _, Nat.zero_le _⟩ 0 rfl rfl rfl hl.1 rfl (Nat.le_of_ble_eq_true rfl) dX6_draw_2 (fun H locs hH => ?_)
    refine lv_aload_n zx zb dX6_draw_5 rfl (lv_at hl 0 rfl) ?_
    refine lv_iload_n zx zb dX6_draw_6 rfl (lv_at hl 2 rfl) ?_
    by_cases hc7 : 0 ≤ a ∧ a < S 1 0
    · refine cvN (rest := []) (As := [.int (iI a)]) (b := g.1 0) C0 hH (c_X6_needStar l g S a (by omega) (by omega)) kw_X6_63 ky_X6_needStar ⟨Nat.le_of_ble_eq_true rfl, Nat.le_of_ble_eq_true rfl⟩ ⟨Nat.zero_le _, Nat.zero_le _⟩ 0 rfl rfl rfl hl.1 rfl (Nat.le_of_ble_eq_true rfl) dX6_draw_7 (fun H locs hH => ?_)
      refine lv_aload_n zx zb dX6_draw_10 rfl (lv_at hl 0 rfl) ?_
      refine lv_iload_n zx zb dX6_draw_11 rfl (lv_at hl 3 rfl) ?_
      exact cvX (rest := []) (As := [.int (iI b)]) (b := g.1 0) C0 htab hlk hH (x_X6_needStar l g S b (by omega) (by omega) (by omega) hfl) kw_X6_63 ky_X6_needStar ⟨Nat.le_of_ble_eq_true rfl, Nat.le_of_ble_eq_true rfl⟩ ⟨Nat.le_of_ble_eq_true rfl, Nat.le_of_ble_eq_true rfl⟩ 0 rfl rfl rfl hl.1 rfl (Nat.le_of_ble_eq_true rfl) dX6_draw_12
    · exact cvX (rest := []) (As := [.int (iI a)]) (b := g.1 0) C0 htab hlk hH (x_X6_needStar l g S a (by omega) (by omega) (by omega) hfl) kw_X6_63 ky_X6_needStar ⟨Nat.le_of_ble_eq_true rfl, Nat.le_of_ble_eq_true rfl⟩ ⟨Nat.le_of_ble_eq_true rfl, Nat.le_of_ble_eq_true rfl⟩ 0 rfl rfl rfl hl.1 rfl (Nat.le_of_ble_eq_true rfl) dX6_draw_7
  · exact cvX (rest := []) (As := [.int (iI f)]) (b := g.1 0) C0 htab hlk hH (x_X6_needFigure l g S f (by omega) (by omega) (by omega) hfl) kw_X6_94 ky_X6_needFigure ⟨Nat.le_of_ble_eq_true rfl, Nat.le_of_ble_eq_true rfl⟩ ⟨Nat.le_of_ble_eq_true rfl, Nat.le_of_ble_eq_true rfl⟩ 0 rfl rfl rfl hl.1 rfl (Nat.le_of_ble_eq_true rfl) dX6_draw_2
set_option maxRecDepth 100000 in
set_option maxHeartbeats 4000000 in
theorem x2_X6_draw (l : Launch) (g : gT) (S : gSt) (f a b : Int) (hn1 : 0 ≤ S 1 0 ∧ S 1 0 ≤ 24) (hnf : 0 ≤ S 4 0 ∧ S 4 0 ≤ 8) (hfo : 0 ≤ f ∧ f < S 4 0) (hao : 0 ≤ a ∧ a < S 1 0) (hbo : 0 ≤ b ∧ b < S 1 0) (hab : a = b) (hfl : l.stackTraces = false) : ThrG l g yX6_draw cX6_draw 5 (some .int) 6 85 [.ref (g.1 0), .int (iI f), .int (iI a), .int (iI b)] S "java/lang/IllegalArgumentException" S := by
  refine bodyX (by decide +kernel) (Nat.le_of_ble_eq_true rfl) ?_
  intro p e s m args below meth c ls C0 htab hlk hl hH
  have zx := C0.1
  have zb := C0.2.1
  have hl : lv_has ls 5 [(0, .ref (g.1 0)), (1, .int (iI f)), (2, .int (iI a)), (3, .int (iI b))] := hl
  obtain ⟨H, hHe⟩ : ∃ H : Heap, H = s.heap := ⟨_, rfl⟩
  rw [show (Hp g S s s.heap []) = Hp g S s H [] by rw [hHe]] at hH
  rw [← hHe]
  refine lv_aload_n zx zb dX6_draw_0 rfl (lv_at hl 0 rfl) ?_
  refine lv_iload_n zx zb dX6_draw_1 rfl (lv_at hl 1 rfl) ?_
  refine cvN (rest := []) (As := [.int (iI f)]) (b := g.1 0) C0 hH (c_X6_needFigure l g S f (by omega) (by omega)) kw_X6_94 ky_X6_needFigure ⟨Nat.le_of_ble_eq_true rfl, Nat.le_of_ble_eq_true rfl⟩ ⟨Nat.zero_le _, Nat.zero_le _⟩ 0 rfl rfl rfl hl.1 rfl (Nat.le_of_ble_eq_true rfl) dX6_draw_2 (fun H locs hH => ?_)
  refine lv_aload_n zx zb dX6_draw_5 rfl (lv_at hl 0 rfl) ?_
  refine lv_iload_n zx zb dX6_draw_6 rfl (lv_at hl 2 rfl) ?_
  refine cvN (rest := []) (As := [.int (iI a)]) (b := g.1 0) C0 hH (c_X6_needStar l g S a (by omega) (by omega)) kw_X6_63 ky_X6_needStar ⟨Nat.le_of_ble_eq_true rfl, Nat.le_of_ble_eq_true rfl⟩ ⟨Nat.zero_le _, Nat.zero_le _⟩ 0 rfl rfl rfl hl.1 rfl (Nat.le_of_ble_eq_true rfl) dX6_draw_7 (fun H locs hH => ?_)
  refine lv_aload_n zx zb dX6_draw_10 rfl (lv_at hl 0 rfl) ?_
  refine lv_iload_n zx zb dX6_draw_11 rfl (lv_at hl 3 rfl) ?_
  refine cvN (rest := []) (As := [.int (iI b)]) (b := g.1 0) C0 hH (c_X6_needStar l g S b (by omega) (by omega)) kw_X6_63 ky_X6_needStar ⟨Nat.le_of_ble_eq_true rfl, Nat.le_of_ble_eq_true rfl⟩ ⟨Nat.zero_le _, Nat.zero_le _⟩ 0 rfl rfl rfl hl.1 rfl (Nat.le_of_ble_eq_true rfl) dX6_draw_12 (fun H locs hH => ?_)
  refine lv_iload_n zx zb dX6_draw_15 rfl (lv_at hl 2 rfl) ?_
  refine lv_iload_n zx zb dX6_draw_16 rfl (lv_at hl 3 rfl) ?_
  refine bq_ne (tgt := 30) zx zb dX6_draw_17 (by decide) ⟨by omega, by omega⟩ ⟨by omega, by omega⟩ (fun zq17 => ?_) (fun zq17 => ?_)
  · exact absurd hab zq17
  · exact thG (text := "a line joins two stars") (names := ["java/lang/RuntimeException", "java/lang/Exception"]) hfl C0 htab hlk hH rfl (by decide +kernel) (by decide +kernel) (gm 190 (by decide +kernel) rfl) (gm 29 (by decide +kernel) rfl) (List.mem_of_getElem? (i := 509) (by decide +kernel)) (atS_IAE C0.2.2.2.2.1) gdS_IAE hl.1 dX6_draw_20 dX6_draw_23 dX6_draw_24 dX6_draw_26 dX6_draw_29 (by decide) (Nat.le_of_ble_eq_true rfl) (by decide) (by decide)
set_option maxRecDepth 100000 in
set_option maxHeartbeats 4000000 in
theorem x3_X6_draw (l : Launch) (g : gT) (S : gSt) (f a b : Int) (hn1 : 0 ≤ S 1 0 ∧ S 1 0 ≤ 24) (hnf : 0 ≤ S 4 0 ∧ S 4 0 ≤ 8) (hfo : 0 ≤ f ∧ f < S 4 0) (hao : 0 ≤ a ∧ a < S 1 0) (hbo : 0 ≤ b ∧ b < S 1 0) (hN : okN (S 5)) (hE : okE (S 5) (S 6)) (hO : okE (S 5) (S 7)) (hab : a ≠ b) (hbad : ¬(S 5 f < 10 ∧ jnB (S 5) (S 6) (S 7) f a b = false ∧ ¬(owI (S 4 0) (S 5) (S 6) (S 7) a ≠ -1 ∧ owI (S 4 0) (S 5) (S 6) (S 7) a ≠ f) ∧ ¬(owI (S 4 0) (S 5) (S 6) (S 7) b ≠ -1 ∧ owI (S 4 0) (S 5) (S 6) (S 7) b ≠ f))) (hfl : l.stackTraces = false) : ThrG l g yX6_draw cX6_draw 5 (some .int) 6 90 [.ref (g.1 0), .int (iI f), .int (iI a), .int (iI b)] S "java/lang/IllegalStateException" S := by
  refine bodyX (by decide +kernel) (Nat.le_of_ble_eq_true rfl) ?_
  intro p e s m args below meth c ls C0 htab hlk hl hH
  have zx := C0.1
  have zb := C0.2.1
  have hl : lv_has ls 5 [(0, .ref (g.1 0)), (1, .int (iI f)), (2, .int (iI a)), (3, .int (iI b))] := hl
  obtain ⟨H, hHe⟩ : ∃ H : Heap, H = s.heap := ⟨_, rfl⟩
  rw [show (Hp g S s s.heap []) = Hp g S s H [] by rw [hHe]] at hH
  rw [← hHe]
  refine lv_aload_n zx zb dX6_draw_0 rfl (lv_at hl 0 rfl) ?_
  refine lv_iload_n zx zb dX6_draw_1 rfl (lv_at hl 1 rfl) ?_
  refine cvN (rest := []) (As := [.int (iI f)]) (b := g.1 0) C0 hH (c_X6_needFigure l g S f (by omega) (by omega)) kw_X6_94 ky_X6_needFigure ⟨Nat.le_of_ble_eq_true rfl, Nat.le_of_ble_eq_true rfl⟩ ⟨Nat.zero_le _, Nat.zero_le _⟩ 0 rfl rfl rfl hl.1 rfl (Nat.le_of_ble_eq_true rfl) dX6_draw_2 (fun H locs hH => ?_)
  refine lv_aload_n zx zb dX6_draw_5 rfl (lv_at hl 0 rfl) ?_
  refine lv_iload_n zx zb dX6_draw_6 rfl (lv_at hl 2 rfl) ?_
  refine cvN (rest := []) (As := [.int (iI a)]) (b := g.1 0) C0 hH (c_X6_needStar l g S a (by omega) (by omega)) kw_X6_63 ky_X6_needStar ⟨Nat.le_of_ble_eq_true rfl, Nat.le_of_ble_eq_true rfl⟩ ⟨Nat.zero_le _, Nat.zero_le _⟩ 0 rfl rfl rfl hl.1 rfl (Nat.le_of_ble_eq_true rfl) dX6_draw_7 (fun H locs hH => ?_)
  refine lv_aload_n zx zb dX6_draw_10 rfl (lv_at hl 0 rfl) ?_
  refine lv_iload_n zx zb dX6_draw_11 rfl (lv_at hl 3 rfl) ?_
  refine cvN (rest := []) (As := [.int (iI b)]) (b := g.1 0) C0 hH (c_X6_needStar l g S b (by omega) (by omega)) kw_X6_63 ky_X6_needStar ⟨Nat.le_of_ble_eq_true rfl, Nat.le_of_ble_eq_true rfl⟩ ⟨Nat.zero_le _, Nat.zero_le _⟩ 0 rfl rfl rfl hl.1 rfl (Nat.le_of_ble_eq_true rfl) dX6_draw_12 (fun H locs hH => ?_)
  refine lv_iload_n zx zb dX6_draw_15 rfl (lv_at hl 2 rfl) ?_
  refine lv_iload_n zx zb dX6_draw_16 rfl (lv_at hl 3 rfl) ?_
  refine bq_ne (tgt := 30) zx zb dX6_draw_17 (by decide) ⟨by omega, by omega⟩ ⟨by omega, by omega⟩ (fun zq17 => ?_) (fun zq17 => ?_)
  · refine lv_aload_n zx zb dX6_draw_30 rfl (lv_at hl 0 rfl) ?_
    refine gf_X6_19 C0 hH dX6_draw_31 ?_
    have hn := hN f (by omega) (by omega)
    refine gf_X6_102 C0 hH dX6_draw_34 ?_
    refine lv_iload_n zx zb dX6_draw_37 rfl (lv_at hl 1 rfl) ?_
    refine al_5 C0 hH (by omega) (by omega) dX6_draw_38 ?_
    refine lv_istore (lv' := [(4, .int (iI (S 5 f))), (0, .ref (g.1 0)), (1, .int (iI f)), (2, .int (iI a)), (3, .int (iI b))]) zx zb dX6_draw_39 hl (by decide) rfl (fun ls hl => ?_)
    refine lv_iload zx zb dX6_draw_41 (lv_at hl 0 rfl) ?_
    refine bi_bip (n := 10) zx zb dX6_draw_43 (by decide) ?_
    refine bq_lt (tgt := 58) zx zb dX6_draw_45 (by decide) ⟨by omega, by omega⟩ ⟨by omega, by omega⟩ (fun zq45 => ?_) (fun zq45 => ?_)
    · refine lv_aload_n zx zb dX6_draw_58 rfl (lv_at hl 1 rfl) ?_
      refine gf_X6_19 C0 hH dX6_draw_59 ?_
      refine lv_iload_n zx zb dX6_draw_62 rfl (lv_at hl 2 rfl) ?_
      refine lv_iload_n zx zb dX6_draw_63 rfl (lv_at hl 3 rfl) ?_
      refine lv_iload_n zx zb dX6_draw_64 rfl (lv_at hl 4 rfl) ?_
      refine cvI (rest := []) (As := [.int (iI f), .int (iI a), .int (iI b)]) (b := g.1 4) C0 hH (c_X5_joins l g S f a b (by omega) (by omega) (by omega) (hN) (hE) (hO)) kw_X6_107 ky_X5_joins ⟨Nat.le_of_ble_eq_true rfl, Nat.le_of_ble_eq_true rfl⟩ ⟨Nat.zero_le _, Nat.zero_le _⟩ 4 rfl rfl rfl hl.1 rfl (Nat.le_of_ble_eq_true rfl) dX6_draw_65 (fun H locs hH => ?_)
      have hb68 := brg (jnB (S 5) (S 6) (S 7) f a b)
      refine bz_eq (tgt := 81) zx zb dX6_draw_68 (by decide) ⟨by omega, by omega⟩ (fun zq68 => ?_) (fun zq68 => ?_)
      · refine lv_aload_n zx zb dX6_draw_81 rfl (lv_at hl 1 rfl) ?_
        refine gf_X6_19 C0 hH dX6_draw_82 ?_
        refine lv_iload_n zx zb dX6_draw_85 rfl (lv_at hl 2 rfl) ?_
        refine lv_iload_n zx zb dX6_draw_86 rfl (lv_at hl 3 rfl) ?_
        refine cvI (rest := []) (As := [.int (iI f), .int (iI a)]) (b := g.1 4) C0 hH (c_X5_isOfAnother l g S f a (by omega) (by omega) (by omega) (hN) (hE) (hO)) kw_X6_113 ky_X5_isOfAnother ⟨Nat.le_of_ble_eq_true rfl, Nat.le_of_ble_eq_true rfl⟩ ⟨Nat.zero_le _, Nat.zero_le _⟩ 4 rfl rfl rfl hl.1 rfl (Nat.le_of_ble_eq_true rfl) dX6_draw_87 (fun H locs hH => ?_)
        have hb90 := prg (owI (S 4 0) (S 5) (S 6) (S 7) a ≠ -1 ∧ owI (S 4 0) (S 5) (S 6) (S 7) a ≠ f)
        refine bz_ne (tgt := 105) zx zb dX6_draw_90 (by decide) ⟨by omega, by omega⟩ (fun zq90 => ?_) (fun zq90 => ?_)
        · exact thG (text := "one of them is a star of another figure") (names := ["java/lang/RuntimeException", "java/lang/Exception"]) hfl C0 htab hlk hH rfl (by decide +kernel) (by decide +kernel) (gm 259 (by decide +kernel) rfl) (gm 30 (by decide +kernel) rfl) (List.mem_of_getElem? (i := 521) (by decide +kernel)) (atS_ISE C0.2.2.2.2.1) gdS_ISE hl.1 dX6_draw_105 dX6_draw_108 dX6_draw_109 dX6_draw_111 dX6_draw_114 (by decide) (Nat.le_of_ble_eq_true rfl) (by decide) (by decide)
        · refine lv_aload_n zx zb dX6_draw_93 rfl (lv_at hl 1 rfl) ?_
          refine gf_X6_19 C0 hH dX6_draw_94 ?_
          refine lv_iload_n zx zb dX6_draw_97 rfl (lv_at hl 2 rfl) ?_
          refine lv_iload_n zx zb dX6_draw_98 rfl (lv_at hl 4 rfl) ?_
          refine cvI (rest := []) (As := [.int (iI f), .int (iI b)]) (b := g.1 4) C0 hH (c_X5_isOfAnother l g S f b (by omega) (by omega) (by omega) (hN) (hE) (hO)) kw_X6_113 ky_X5_isOfAnother ⟨Nat.le_of_ble_eq_true rfl, Nat.le_of_ble_eq_true rfl⟩ ⟨Nat.zero_le _, Nat.zero_le _⟩ 4 rfl rfl rfl hl.1 rfl (Nat.le_of_ble_eq_true rfl) dX6_draw_99 (fun H locs hH => ?_)
          have hb102 := prg (owI (S 4 0) (S 5) (S 6) (S 7) b ≠ -1 ∧ owI (S 4 0) (S 5) (S 6) (S 7) b ≠ f)
          refine bz_eq (tgt := 115) zx zb dX6_draw_102 (by decide) ⟨by omega, by omega⟩ (fun zq102 => ?_) (fun zq102 => ?_)
          · exact absurd ⟨zq45, b0 zq68, p0 zq90, p0 zq102⟩ hbad
          · exact thG (text := "one of them is a star of another figure") (names := ["java/lang/RuntimeException", "java/lang/Exception"]) hfl C0 htab hlk hH rfl (by decide +kernel) (by decide +kernel) (gm 259 (by decide +kernel) rfl) (gm 30 (by decide +kernel) rfl) (List.mem_of_getElem? (i := 521) (by decide +kernel)) (atS_ISE C0.2.2.2.2.1) gdS_ISE hl.1 dX6_draw_105 dX6_draw_108 dX6_draw_109 dX6_draw_111 dX6_draw_114 (by decide) (Nat.le_of_ble_eq_true rfl) (by decide) (by decide)
      · exact thG (text := "the figure has a line that joins these stars") (names := ["java/lang/RuntimeException", "java/lang/Exception"]) hfl C0 htab hlk hH rfl (by decide +kernel) (by decide +kernel) (gm 259 (by decide +kernel) rfl) (gm 30 (by decide +kernel) rfl) (List.mem_of_getElem? (i := 515) (by decide +kernel)) (atS_ISE C0.2.2.2.2.1) gdS_ISE hl.1 dX6_draw_71 dX6_draw_74 dX6_draw_75 dX6_draw_77 dX6_draw_80 (by decide) (Nat.le_of_ble_eq_true rfl) (by decide) (by decide)
    · exact thG (text := "the figure has 10 lines") (names := ["java/lang/RuntimeException", "java/lang/Exception"]) hfl C0 htab hlk hH rfl (by decide +kernel) (by decide +kernel) (gm 259 (by decide +kernel) rfl) (gm 30 (by decide +kernel) rfl) (List.mem_of_getElem? (i := 510) (by decide +kernel)) (atS_ISE C0.2.2.2.2.1) gdS_ISE hl.1 dX6_draw_48 dX6_draw_51 dX6_draw_52 dX6_draw_54 dX6_draw_57 (by decide) (Nat.le_of_ble_eq_true rfl) (by decide) (by decide)
  · exact absurd zq17 hab
set_option maxRecDepth 100000 in
set_option maxHeartbeats 4000000 in
theorem c_X6_erase (l : Launch) (g : gT) (S : gSt) (f k : Int) (hnf : 0 ≤ S 4 0 ∧ S 4 0 ≤ 8) (hfo : 0 ≤ f ∧ f < S 4 0) (hko : 0 ≤ k ∧ k < S 5 f) (hh0 : 0 ≤ S 17 0 ∧ S 17 0 < 30) (hh1 : 0 ≤ S 17 1 ∧ S 17 1 ≤ 30) (hN : okN (S 5)) : MetG l g yX6_erase cX6_erase 4 (some .int) 2 46 [.ref (g.1 0), .int (iI f), .int (iI k)] S (some (.int (iI (S 5 f - 1)))) (lnOut (kpS S 2 f k (S 6 (10 * f + k)) (S 7 (10 * f + k))) 5 6 7 f k) := by
  refine bodyG (by decide +kernel) (Nat.le_of_ble_eq_true rfl) ?_
  intro p e s m args below meth c ls C0 hret hlk hl hH
  have zx := C0.1
  have zb := C0.2.1
  have hl : lv_has ls 4 [(0, .ref (g.1 0)), (1, .int (iI f)), (2, .int (iI k))] := hl
  obtain ⟨H, hHe⟩ : ∃ H : Heap, H = s.heap := ⟨_, rfl⟩
  rw [show (Hp g S s s.heap []) = Hp g S s H [] by rw [hHe]] at hH
  rw [← hHe]
  have hn := hN f (by omega) (by omega)
  refine lv_aload_n zx zb dX6_erase_0 rfl (lv_at hl 0 rfl) ?_
  refine lv_iload_n zx zb dX6_erase_1 rfl (lv_at hl 1 rfl) ?_
  refine cvN (rest := []) (As := [.int (iI f)]) (b := g.1 0) C0 hH (c_X6_needFigure l g S f (by omega) (by omega)) kw_X6_94 ky_X6_needFigure ⟨Nat.le_of_ble_eq_true rfl, Nat.le_of_ble_eq_true rfl⟩ ⟨Nat.zero_le _, Nat.zero_le _⟩ 0 rfl rfl rfl hl.1 rfl (Nat.le_of_ble_eq_true rfl) dX6_erase_2 (fun H locs hH => ?_)
  refine lv_iload_n zx zb dX6_erase_5 rfl (lv_at hl 2 rfl) ?_
  refine bz_lt (tgt := 22) zx zb dX6_erase_6 (by decide) ⟨by omega, by omega⟩ (fun zq6 => ?_) (fun zq6 => ?_)
  · exact absurd zq6 (by omega)
  · refine lv_iload_n zx zb dX6_erase_9 rfl (lv_at hl 2 rfl) ?_
    refine lv_aload_n zx zb dX6_erase_10 rfl (lv_at hl 0 rfl) ?_
    refine gf_X6_19 C0 hH dX6_erase_11 ?_
    refine gf_X6_102 C0 hH dX6_erase_14 ?_
    refine lv_iload_n zx zb dX6_erase_17 rfl (lv_at hl 1 rfl) ?_
    refine al_5 C0 hH (by omega) (by omega) dX6_erase_18 ?_
    refine bq_lt (tgt := 32) zx zb dX6_erase_19 (by decide) ⟨by omega, by omega⟩ ⟨by omega, by omega⟩ (fun zq19 => ?_) (fun zq19 => ?_)
    · refine lv_iload_n zx zb dX6_erase_32 rfl (lv_at hl 1 rfl) ?_
      refine lv_iload_n zx zb dX6_erase_33 rfl (lv_at hl 2 rfl) ?_
      refine csI (rest := []) (As := [.int (iI f), .int (iI k)]) C0 hH (c_X5_place l g S f k) kw_X6_128 ky_X5_place ⟨Nat.le_of_ble_eq_true rfl, Nat.le_of_ble_eq_true rfl⟩ ⟨Nat.zero_le _, Nat.zero_le _⟩ rfl hl.1 rfl (Nat.le_of_ble_eq_true rfl) dX6_erase_34 (fun H locs hH => ?_)
      refine lv_istore_n (lv' := [(3, .int (iI (10 * f + k))), (0, .ref (g.1 0)), (1, .int (iI f)), (2, .int (iI k))]) zx zb dX6_erase_37 rfl hl (by decide) rfl (fun ls hl => ?_)
      refine lv_aload_n zx zb dX6_erase_38 rfl (lv_at hl 1 rfl) ?_
      refine gf_X6_40 C0 hH dX6_erase_39 ?_
      refine bi_const (n := 2) zx zb dX6_erase_42 ?_
      refine lv_iload_n zx zb dX6_erase_43 rfl (lv_at hl 2 rfl) ?_
      refine lv_iload_n zx zb dX6_erase_44 rfl (lv_at hl 3 rfl) ?_
      refine lv_aload_n zx zb dX6_erase_45 rfl (lv_at hl 1 rfl) ?_
      refine gf_X6_19 C0 hH dX6_erase_46 ?_
      refine gf_X6_131 C0 hH dX6_erase_49 ?_
      refine lv_iload_n zx zb dX6_erase_52 rfl (lv_at hl 0 rfl) ?_
      refine al_6 C0 hH (by omega) (by omega) dX6_erase_53 ?_
      refine lv_aload_n zx zb dX6_erase_54 rfl (lv_at hl 1 rfl) ?_
      refine gf_X6_19 C0 hH dX6_erase_55 ?_
      refine gf_X6_134 C0 hH dX6_erase_58 ?_
      refine lv_iload_n zx zb dX6_erase_61 rfl (lv_at hl 0 rfl) ?_
      refine al_7 C0 hH (by omega) (by omega) dX6_erase_62 ?_
      refine cvN (rest := []) (As := [.int (iI 2), .int (iI f), .int (iI k), .int (iI (S 6 (10 * f + k))), .int (iI (S 7 (10 * f + k)))]) (b := g.1 17) C0 hH (c_X3_keep l g S 2 f k (S 6 (10 * f + k)) (S 7 (10 * f + k)) (by omega) (by omega)) kw_X6_74 ky_X3_keep ⟨Nat.le_of_ble_eq_true rfl, Nat.le_of_ble_eq_true rfl⟩ ⟨Nat.zero_le _, Nat.zero_le _⟩ 17 rfl rfl rfl hl.1 rfl (Nat.le_of_ble_eq_true rfl) dX6_erase_63 (fun H locs hH => ?_)
      refine lv_aload_n zx zb dX6_erase_66 rfl (lv_at hl 1 rfl) ?_
      refine gf_X6_19 C0 hH dX6_erase_67 ?_
      refine lv_iload_n zx zb dX6_erase_70 rfl (lv_at hl 2 rfl) ?_
      refine lv_iload_n zx zb dX6_erase_71 rfl (lv_at hl 3 rfl) ?_
      refine cvN (rest := []) (As := [.int (iI f), .int (iI k)]) (b := g.1 4) C0 hH (c_X5_remove l g (kpS S 2 f k (S 6 (10 * f + k)) (S 7 (10 * f + k))) f k (by omega) (by exact hko) (by exact hn.2)) kw_X6_137 ky_X5_remove ⟨Nat.le_of_ble_eq_true rfl, Nat.le_of_ble_eq_true rfl⟩ ⟨Nat.zero_le _, Nat.zero_le _⟩ 4 rfl rfl rfl hl.1 rfl (Nat.le_of_ble_eq_true rfl) dX6_erase_72 (fun H locs hH => ?_)
      refine lv_aload_n zx zb dX6_erase_75 rfl (lv_at hl 1 rfl) ?_
      refine gf_X6_19 C0 hH dX6_erase_76 ?_
      refine gf_X6_102 C0 hH dX6_erase_79 ?_
      refine lv_iload_n zx zb dX6_erase_82 rfl (lv_at hl 2 rfl) ?_
      refine al_5 C0 hH (by omega) (by omega) dX6_erase_83 ?_
      show W p l e _ s m args below meth c H _ _ _ _ (F0 m 84 ls [.int (iI ((lnOut (kpS S 2 f k (S 6 (10 * f + k)) (S 7 (10 * f + k))) 5 6 7 f k) 5 f))])
      exact retI C0 hret hlk hH (by unfold lnOut; exact ud_s _ _ _) (rfl) dX6_erase_84
    · exact absurd zq19 (by omega)
set_option maxRecDepth 100000 in
set_option maxHeartbeats 4000000 in
theorem x1_X6_erase (l : Launch) (g : gT) (S : gSt) (f k : Int) (hnf : 0 ≤ S 4 0 ∧ S 4 0 ≤ 8) (hr_f : -2147483648 ≤ f ∧ f < 2147483648) (hr_k : -2147483648 ≤ k ∧ k < 2147483648) (hbad : ¬((0 ≤ f ∧ f < S 4 0) ∧ (0 ≤ k ∧ k < S 5 f))) (hN : okN (S 5)) (hfl : l.stackTraces = false) : ThrG l g yX6_erase cX6_erase 4 (some .int) 7 106 [.ref (g.1 0), .int (iI f), .int (iI k)] S "java/lang/IndexOutOfBoundsException" S := by
  refine bodyX (by decide +kernel) (Nat.le_of_ble_eq_true rfl) ?_
  intro p e s m args below meth c ls C0 htab hlk hl hH
  have zx := C0.1
  have zb := C0.2.1
  have hl : lv_has ls 4 [(0, .ref (g.1 0)), (1, .int (iI f)), (2, .int (iI k))] := hl
  obtain ⟨H, hHe⟩ : ∃ H : Heap, H = s.heap := ⟨_, rfl⟩
  rw [show (Hp g S s s.heap []) = Hp g S s H [] by rw [hHe]] at hH
  rw [← hHe]
  refine lv_aload_n zx zb dX6_erase_0 rfl (lv_at hl 0 rfl) ?_
  refine lv_iload_n zx zb dX6_erase_1 rfl (lv_at hl 1 rfl) ?_
  by_cases hc2 : 0 ≤ f ∧ f < S 4 0
  · refine cvN (rest := []) (As := [.int (iI f)]) (b := g.1 0) C0 hH (c_X6_needFigure l g S f (by omega) (by omega)) kw_X6_94 ky_X6_needFigure ⟨Nat.le_of_ble_eq_true rfl, Nat.le_of_ble_eq_true rfl⟩ ⟨Nat.zero_le _, Nat.zero_le _⟩ 0 rfl rfl rfl hl.1 rfl (Nat.le_of_ble_eq_true rfl) dX6_erase_2 (fun H locs hH => ?_)
    have hn := hN f (by omega) (by omega)
    refine lv_iload_n zx zb dX6_erase_5 rfl (lv_at hl 2 rfl) ?_
    refine bz_lt (tgt := 22) zx zb dX6_erase_6 (by decide) ⟨by omega, by omega⟩ (fun zq6 => ?_) (fun zq6 => ?_)
    · exact thG (text := "no such line") (names := ["java/lang/RuntimeException", "java/lang/Exception"]) hfl C0 htab hlk hH rfl (by decide +kernel) (by decide +kernel) (gm 291 (by decide +kernel) rfl) (gm 31 (by decide +kernel) rfl) (List.mem_of_getElem? (i := 367) (by decide +kernel)) (atS_IOE C0.2.2.2.2.1) gdS_IOE hl.1 dX6_erase_22 dX6_erase_25 dX6_erase_26 dX6_erase_28 dX6_erase_31 (by decide) (Nat.le_of_ble_eq_true rfl) (by decide) (by decide)
    · refine lv_iload_n zx zb dX6_erase_9 rfl (lv_at hl 2 rfl) ?_
      refine lv_aload_n zx zb dX6_erase_10 rfl (lv_at hl 0 rfl) ?_
      refine gf_X6_19 C0 hH dX6_erase_11 ?_
      refine gf_X6_102 C0 hH dX6_erase_14 ?_
      refine lv_iload_n zx zb dX6_erase_17 rfl (lv_at hl 1 rfl) ?_
      refine al_5 C0 hH (by omega) (by omega) dX6_erase_18 ?_
      refine bq_lt (tgt := 32) zx zb dX6_erase_19 (by decide) ⟨by omega, by omega⟩ ⟨by omega, by omega⟩ (fun zq19 => ?_) (fun zq19 => ?_)
      · exact absurd zq19 (by omega)
      · exact thG (text := "no such line") (names := ["java/lang/RuntimeException", "java/lang/Exception"]) hfl C0 htab hlk hH rfl (by decide +kernel) (by decide +kernel) (gm 291 (by decide +kernel) rfl) (gm 31 (by decide +kernel) rfl) (List.mem_of_getElem? (i := 367) (by decide +kernel)) (atS_IOE C0.2.2.2.2.1) gdS_IOE hl.1 dX6_erase_22 dX6_erase_25 dX6_erase_26 dX6_erase_28 dX6_erase_31 (by decide) (Nat.le_of_ble_eq_true rfl) (by decide) (by decide)
  · exact cvX (rest := []) (As := [.int (iI f)]) (b := g.1 0) C0 htab hlk hH (x_X6_needFigure l g S f (by omega) (by omega) (by omega) hfl) kw_X6_94 ky_X6_needFigure ⟨Nat.le_of_ble_eq_true rfl, Nat.le_of_ble_eq_true rfl⟩ ⟨Nat.le_of_ble_eq_true rfl, Nat.le_of_ble_eq_true rfl⟩ 0 rfl rfl rfl hl.1 rfl (Nat.le_of_ble_eq_true rfl) dX6_erase_2
set_option maxRecDepth 100000 in
set_option maxHeartbeats 4000000 in
theorem c0_X6_takeBack (l : Launch) (g : gT) (S : gSt) (i : Int) (hi : 0 ≤ i ∧ i < 30) (hk : S 18 i = 0) (hz : 0 ≤ S 19 i ∧ S 19 i < 24) : MetG l g yX6_takeBack cX6_takeBack 6 none 1 23 [.ref (g.1 0), .int (iI i)] S none (mvS S (S 19 i) (S 21 i) (S 22 i)) := by
  refine bodyG (by decide +kernel) (Nat.le_of_ble_eq_true rfl) ?_
  intro p e s m args below meth c ls C0 hret hlk hl hH
  have zx := C0.1
  have zb := C0.2.1
  have hl : lv_has ls 6 [(0, .ref (g.1 0)), (1, .int (iI i))] := hl
  obtain ⟨H, hHe⟩ : ∃ H : Heap, H = s.heap := ⟨_, rfl⟩
  rw [show (Hp g S s s.heap []) = Hp g S s H [] by rw [hHe]] at hH
  rw [← hHe]
  refine lv_aload_n zx zb dX6_takeBack_0 rfl (lv_at hl 0 rfl) ?_
  refine gf_X6_40 C0 hH dX6_takeBack_1 ?_
  refine gf_X6_235 C0 hH dX6_takeBack_4 ?_
  refine lv_iload_n zx zb dX6_takeBack_7 rfl (lv_at hl 1 rfl) ?_
  refine al_19 C0 hH (by omega) (by omega) dX6_takeBack_8 ?_
  refine lv_istore_n (lv' := [(2, .int (iI (S 19 i))), (0, .ref (g.1 0)), (1, .int (iI i))]) zx zb dX6_takeBack_9 rfl hl (by decide) rfl (fun ls hl => ?_)
  refine lv_aload_n zx zb dX6_takeBack_10 rfl (lv_at hl 1 rfl) ?_
  refine gf_X6_40 C0 hH dX6_takeBack_11 ?_
  refine gf_X6_238 C0 hH dX6_takeBack_14 ?_
  refine lv_iload_n zx zb dX6_takeBack_17 rfl (lv_at hl 2 rfl) ?_
  refine al_20 C0 hH (by omega) (by omega) dX6_takeBack_18 ?_
  refine lv_istore_n (lv' := [(3, .int (iI (S 20 i))), (2, .int (iI (S 19 i))), (0, .ref (g.1 0)), (1, .int (iI i))]) zx zb dX6_takeBack_19 rfl hl (by decide) rfl (fun ls hl => ?_)
  refine lv_aload_n zx zb dX6_takeBack_20 rfl (lv_at hl 2 rfl) ?_
  refine gf_X6_40 C0 hH dX6_takeBack_21 ?_
  refine gf_X6_241 C0 hH dX6_takeBack_24 ?_
  refine lv_iload_n zx zb dX6_takeBack_27 rfl (lv_at hl 3 rfl) ?_
  refine al_21 C0 hH (by omega) (by omega) dX6_takeBack_28 ?_
  refine lv_istore (lv' := [(4, .int (iI (S 21 i))), (3, .int (iI (S 20 i))), (2, .int (iI (S 19 i))), (0, .ref (g.1 0)), (1, .int (iI i))]) zx zb dX6_takeBack_29 hl (by decide) rfl (fun ls hl => ?_)
  refine lv_aload_n zx zb dX6_takeBack_31 rfl (lv_at hl 3 rfl) ?_
  refine gf_X6_40 C0 hH dX6_takeBack_32 ?_
  refine gf_X6_244 C0 hH dX6_takeBack_35 ?_
  refine lv_iload_n zx zb dX6_takeBack_38 rfl (lv_at hl 4 rfl) ?_
  refine al_22 C0 hH (by omega) (by omega) dX6_takeBack_39 ?_
  refine lv_istore (lv' := [(5, .int (iI (S 22 i))), (4, .int (iI (S 21 i))), (3, .int (iI (S 20 i))), (2, .int (iI (S 19 i))), (0, .ref (g.1 0)), (1, .int (iI i))]) zx zb dX6_takeBack_40 hl (by decide) rfl (fun ls hl => ?_)
  refine lv_aload_n zx zb dX6_takeBack_42 rfl (lv_at hl 4 rfl) ?_
  refine gf_X6_40 C0 hH dX6_takeBack_43 ?_
  refine gf_X6_247 C0 hH dX6_takeBack_46 ?_
  refine lv_iload_n zx zb dX6_takeBack_49 rfl (lv_at hl 5 rfl) ?_
  refine al_18 C0 hH (by omega) (by omega) dX6_takeBack_50 ?_
  refine lv_tableIn (off := 25) (tgt := 76) zx zb dX6_takeBack_51 (by rw [hk, iI_t ⟨by decide, by decide⟩]; decide) (by rw [hk, iI_t ⟨by decide, by decide⟩]; decide) (by rw [hk, iI_t ⟨by decide, by decide⟩]; rfl) (by decide) ?_
  refine lv_aload_n zx zb dX6_takeBack_76 rfl (lv_at hl 4 rfl) ?_
  refine gf_X6_12 C0 hH dX6_takeBack_77 ?_
  refine lv_iload_n zx zb dX6_takeBack_80 rfl (lv_at hl 3 rfl) ?_
  refine lv_iload zx zb dX6_takeBack_81 (lv_at hl 1 rfl) ?_
  refine lv_iload zx zb dX6_takeBack_83 (lv_at hl 0 rfl) ?_
  refine cvN (rest := []) (As := [.int (iI (S 19 i)), .int (iI (S 21 i)), .int (iI (S 22 i))]) (b := g.1 1) C0 hH (c_X2_move l g S (S 19 i) (S 21 i) (S 22 i) (by omega)) kw_X6_78 ky_X2_move ⟨Nat.le_of_ble_eq_true rfl, Nat.le_of_ble_eq_true rfl⟩ ⟨Nat.zero_le _, Nat.zero_le _⟩ 1 rfl rfl rfl hl.1 rfl (Nat.le_of_ble_eq_true rfl) dX6_takeBack_85 (fun H locs hH => ?_)
  refine lv_goto (tgt := 119) zx zb dX6_takeBack_88 (by decide) ?_
  exact retV C0 hret hlk hH (rfl) dX6_takeBack_119
set_option maxRecDepth 100000 in
set_option maxHeartbeats 4000000 in
theorem c1_X6_takeBack (l : Launch) (g : gT) (S : gSt) (i : Int) (hi : 0 ≤ i ∧ i < 30) (hk : S 18 i = 1) (hz : 0 ≤ S 19 i ∧ S 19 i < 8) (hl0 : 0 ≤ S 20 i ∧ S 20 i < S 5 (S 19 i)) (hc : S 5 (S 19 i) ≤ 10) : MetG l g yX6_takeBack cX6_takeBack 6 none 2 45 [.ref (g.1 0), .int (iI i)] S none (lnOut S 5 6 7 (S 19 i) (S 20 i)) := by
  refine bodyG (by decide +kernel) (Nat.le_of_ble_eq_true rfl) ?_
  intro p e s m args below meth c ls C0 hret hlk hl hH
  have zx := C0.1
  have zb := C0.2.1
  have hl : lv_has ls 6 [(0, .ref (g.1 0)), (1, .int (iI i))] := hl
  obtain ⟨H, hHe⟩ : ∃ H : Heap, H = s.heap := ⟨_, rfl⟩
  rw [show (Hp g S s s.heap []) = Hp g S s H [] by rw [hHe]] at hH
  rw [← hHe]
  refine lv_aload_n zx zb dX6_takeBack_0 rfl (lv_at hl 0 rfl) ?_
  refine gf_X6_40 C0 hH dX6_takeBack_1 ?_
  refine gf_X6_235 C0 hH dX6_takeBack_4 ?_
  refine lv_iload_n zx zb dX6_takeBack_7 rfl (lv_at hl 1 rfl) ?_
  refine al_19 C0 hH (by omega) (by omega) dX6_takeBack_8 ?_
  refine lv_istore_n (lv' := [(2, .int (iI (S 19 i))), (0, .ref (g.1 0)), (1, .int (iI i))]) zx zb dX6_takeBack_9 rfl hl (by decide) rfl (fun ls hl => ?_)
  refine lv_aload_n zx zb dX6_takeBack_10 rfl (lv_at hl 1 rfl) ?_
  refine gf_X6_40 C0 hH dX6_takeBack_11 ?_
  refine gf_X6_238 C0 hH dX6_takeBack_14 ?_
  refine lv_iload_n zx zb dX6_takeBack_17 rfl (lv_at hl 2 rfl) ?_
  refine al_20 C0 hH (by omega) (by omega) dX6_takeBack_18 ?_
  refine lv_istore_n (lv' := [(3, .int (iI (S 20 i))), (2, .int (iI (S 19 i))), (0, .ref (g.1 0)), (1, .int (iI i))]) zx zb dX6_takeBack_19 rfl hl (by decide) rfl (fun ls hl => ?_)
  refine lv_aload_n zx zb dX6_takeBack_20 rfl (lv_at hl 2 rfl) ?_
  refine gf_X6_40 C0 hH dX6_takeBack_21 ?_
  refine gf_X6_241 C0 hH dX6_takeBack_24 ?_
  refine lv_iload_n zx zb dX6_takeBack_27 rfl (lv_at hl 3 rfl) ?_
  refine al_21 C0 hH (by omega) (by omega) dX6_takeBack_28 ?_
  refine lv_istore (lv' := [(4, .int (iI (S 21 i))), (3, .int (iI (S 20 i))), (2, .int (iI (S 19 i))), (0, .ref (g.1 0)), (1, .int (iI i))]) zx zb dX6_takeBack_29 hl (by decide) rfl (fun ls hl => ?_)
  refine lv_aload_n zx zb dX6_takeBack_31 rfl (lv_at hl 3 rfl) ?_
  refine gf_X6_40 C0 hH dX6_takeBack_32 ?_
  refine gf_X6_244 C0 hH dX6_takeBack_35 ?_
  refine lv_iload_n zx zb dX6_takeBack_38 rfl (lv_at hl 4 rfl) ?_
  refine al_22 C0 hH (by omega) (by omega) dX6_takeBack_39 ?_
  refine lv_istore (lv' := [(5, .int (iI (S 22 i))), (4, .int (iI (S 21 i))), (3, .int (iI (S 20 i))), (2, .int (iI (S 19 i))), (0, .ref (g.1 0)), (1, .int (iI i))]) zx zb dX6_takeBack_40 hl (by decide) rfl (fun ls hl => ?_)
  refine lv_aload_n zx zb dX6_takeBack_42 rfl (lv_at hl 4 rfl) ?_
  refine gf_X6_40 C0 hH dX6_takeBack_43 ?_
  refine gf_X6_247 C0 hH dX6_takeBack_46 ?_
  refine lv_iload_n zx zb dX6_takeBack_49 rfl (lv_at hl 5 rfl) ?_
  refine al_18 C0 hH (by omega) (by omega) dX6_takeBack_50 ?_
  refine lv_tableIn (off := 40) (tgt := 91) zx zb dX6_takeBack_51 (by rw [hk, iI_t ⟨by decide, by decide⟩]; decide) (by rw [hk, iI_t ⟨by decide, by decide⟩]; decide) (by rw [hk, iI_t ⟨by decide, by decide⟩]; rfl) (by decide) ?_
  refine lv_aload_n zx zb dX6_takeBack_91 rfl (lv_at hl 4 rfl) ?_
  refine gf_X6_19 C0 hH dX6_takeBack_92 ?_
  refine lv_iload_n zx zb dX6_takeBack_95 rfl (lv_at hl 3 rfl) ?_
  refine lv_iload_n zx zb dX6_takeBack_96 rfl (lv_at hl 2 rfl) ?_
  refine cvN (rest := []) (As := [.int (iI (S 19 i)), .int (iI (S 20 i))]) (b := g.1 4) C0 hH (c_X5_remove l g S (S 19 i) (S 20 i) (by omega) (by omega) (by omega)) kw_X6_137 ky_X5_remove ⟨Nat.le_of_ble_eq_true rfl, Nat.le_of_ble_eq_true rfl⟩ ⟨Nat.zero_le _, Nat.zero_le _⟩ 4 rfl rfl rfl hl.1 rfl (Nat.le_of_ble_eq_true rfl) dX6_takeBack_97 (fun H locs hH => ?_)
  refine lv_goto (tgt := 119) zx zb dX6_takeBack_100 (by decide) ?_
  exact retV C0 hret hlk hH (rfl) dX6_takeBack_119
set_option maxRecDepth 100000 in
set_option maxHeartbeats 4000000 in
theorem c2_X6_takeBack (l : Launch) (g : gT) (S : gSt) (i : Int) (hi : 0 ≤ i ∧ i < 30) (hk : S 18 i = 2) (hz : 0 ≤ S 19 i ∧ S 19 i < 8) (hl0 : 0 ≤ S 20 i ∧ S 20 i ≤ S 5 (S 19 i)) (hc : S 5 (S 19 i) < 10) : MetG l g yX6_takeBack cX6_takeBack 6 none 2 47 [.ref (g.1 0), .int (iI i)] S none (lnIn S 5 6 7 (S 19 i) (S 20 i) (S 21 i) (S 22 i)) := by
  refine bodyG (by decide +kernel) (Nat.le_of_ble_eq_true rfl) ?_
  intro p e s m args below meth c ls C0 hret hlk hl hH
  have zx := C0.1
  have zb := C0.2.1
  have hl : lv_has ls 6 [(0, .ref (g.1 0)), (1, .int (iI i))] := hl
  obtain ⟨H, hHe⟩ : ∃ H : Heap, H = s.heap := ⟨_, rfl⟩
  rw [show (Hp g S s s.heap []) = Hp g S s H [] by rw [hHe]] at hH
  rw [← hHe]
  refine lv_aload_n zx zb dX6_takeBack_0 rfl (lv_at hl 0 rfl) ?_
  refine gf_X6_40 C0 hH dX6_takeBack_1 ?_
  refine gf_X6_235 C0 hH dX6_takeBack_4 ?_
  refine lv_iload_n zx zb dX6_takeBack_7 rfl (lv_at hl 1 rfl) ?_
  refine al_19 C0 hH (by omega) (by omega) dX6_takeBack_8 ?_
  refine lv_istore_n (lv' := [(2, .int (iI (S 19 i))), (0, .ref (g.1 0)), (1, .int (iI i))]) zx zb dX6_takeBack_9 rfl hl (by decide) rfl (fun ls hl => ?_)
  refine lv_aload_n zx zb dX6_takeBack_10 rfl (lv_at hl 1 rfl) ?_
  refine gf_X6_40 C0 hH dX6_takeBack_11 ?_
  refine gf_X6_238 C0 hH dX6_takeBack_14 ?_
  refine lv_iload_n zx zb dX6_takeBack_17 rfl (lv_at hl 2 rfl) ?_
  refine al_20 C0 hH (by omega) (by omega) dX6_takeBack_18 ?_
  refine lv_istore_n (lv' := [(3, .int (iI (S 20 i))), (2, .int (iI (S 19 i))), (0, .ref (g.1 0)), (1, .int (iI i))]) zx zb dX6_takeBack_19 rfl hl (by decide) rfl (fun ls hl => ?_)
  refine lv_aload_n zx zb dX6_takeBack_20 rfl (lv_at hl 2 rfl) ?_
  refine gf_X6_40 C0 hH dX6_takeBack_21 ?_
  refine gf_X6_241 C0 hH dX6_takeBack_24 ?_
  refine lv_iload_n zx zb dX6_takeBack_27 rfl (lv_at hl 3 rfl) ?_
  refine al_21 C0 hH (by omega) (by omega) dX6_takeBack_28 ?_
  refine lv_istore (lv' := [(4, .int (iI (S 21 i))), (3, .int (iI (S 20 i))), (2, .int (iI (S 19 i))), (0, .ref (g.1 0)), (1, .int (iI i))]) zx zb dX6_takeBack_29 hl (by decide) rfl (fun ls hl => ?_)
  refine lv_aload_n zx zb dX6_takeBack_31 rfl (lv_at hl 3 rfl) ?_
  refine gf_X6_40 C0 hH dX6_takeBack_32 ?_
  refine gf_X6_244 C0 hH dX6_takeBack_35 ?_
  refine lv_iload_n zx zb dX6_takeBack_38 rfl (lv_at hl 4 rfl) ?_
  refine al_22 C0 hH (by omega) (by omega) dX6_takeBack_39 ?_
  refine lv_istore (lv' := [(5, .int (iI (S 22 i))), (4, .int (iI (S 21 i))), (3, .int (iI (S 20 i))), (2, .int (iI (S 19 i))), (0, .ref (g.1 0)), (1, .int (iI i))]) zx zb dX6_takeBack_40 hl (by decide) rfl (fun ls hl => ?_)
  refine lv_aload_n zx zb dX6_takeBack_42 rfl (lv_at hl 4 rfl) ?_
  refine gf_X6_40 C0 hH dX6_takeBack_43 ?_
  refine gf_X6_247 C0 hH dX6_takeBack_46 ?_
  refine lv_iload_n zx zb dX6_takeBack_49 rfl (lv_at hl 5 rfl) ?_
  refine al_18 C0 hH (by omega) (by omega) dX6_takeBack_50 ?_
  refine lv_tableIn (off := 52) (tgt := 103) zx zb dX6_takeBack_51 (by rw [hk, iI_t ⟨by decide, by decide⟩]; decide) (by rw [hk, iI_t ⟨by decide, by decide⟩]; decide) (by rw [hk, iI_t ⟨by decide, by decide⟩]; rfl) (by decide) ?_
  refine lv_aload_n zx zb dX6_takeBack_103 rfl (lv_at hl 4 rfl) ?_
  refine gf_X6_19 C0 hH dX6_takeBack_104 ?_
  refine lv_iload_n zx zb dX6_takeBack_107 rfl (lv_at hl 3 rfl) ?_
  refine lv_iload_n zx zb dX6_takeBack_108 rfl (lv_at hl 2 rfl) ?_
  refine lv_iload zx zb dX6_takeBack_109 (lv_at hl 1 rfl) ?_
  refine lv_iload zx zb dX6_takeBack_111 (lv_at hl 0 rfl) ?_
  refine cvN (rest := []) (As := [.int (iI (S 19 i)), .int (iI (S 20 i)), .int (iI (S 21 i)), .int (iI (S 22 i))]) (b := g.1 4) C0 hH (c_X5_insert l g S (S 19 i) (S 20 i) (S 21 i) (S 22 i) (by omega) (by omega) (by omega)) kw_X6_119 ky_X5_insert ⟨Nat.le_of_ble_eq_true rfl, Nat.le_of_ble_eq_true rfl⟩ ⟨Nat.zero_le _, Nat.zero_le _⟩ 4 rfl rfl rfl hl.1 rfl (Nat.le_of_ble_eq_true rfl) dX6_takeBack_113 (fun H locs hH => ?_)
  refine lv_goto (tgt := 119) zx zb dX6_takeBack_116 (by decide) ?_
  exact retV C0 hret hlk hH (rfl) dX6_takeBack_119
set_option maxRecDepth 100000 in
set_option maxHeartbeats 4000000 in
theorem c0_X6_undo (l : Launch) (g : gT) (S : gSt) (hh0 : 0 ≤ S 17 0 ∧ S 17 0 < 30) (hh1 : 0 ≤ S 17 1 ∧ S 17 1 ≤ 30) (hkp : 0 < S 17 1) (hk : S 18 ((S 17 0 + 29) % 30) = 0) (hz : 0 ≤ S 19 ((S 17 0 + 29) % 30) ∧ S 19 ((S 17 0 + 29) % 30) < 24) : MetG l g yX6_undo cX6_undo 1 (some .int) 2 48 [.ref (g.1 0)] S (some (.int (iI (S 17 1 - 1)))) (mvS (sbS S) (S 19 ((S 17 0 + 29) % 30)) (S 21 ((S 17 0 + 29) % 30)) (S 22 ((S 17 0 + 29) % 30))) := by
  refine bodyG (by decide +kernel) (Nat.le_of_ble_eq_true rfl) ?_
  intro p e s m args below meth c ls C0 hret hlk hl hH
  have zx := C0.1
  have zb := C0.2.1
  have hl : lv_has ls 1 [(0, .ref (g.1 0))] := hl
  obtain ⟨H, hHe⟩ : ∃ H : Heap, H = s.heap := ⟨_, rfl⟩
  rw [show (Hp g S s s.heap []) = Hp g S s H [] by rw [hHe]] at hH
  rw [← hHe]
  refine lv_aload_n zx zb dX6_undo_0 rfl (lv_at hl 0 rfl) ?_
  refine gf_X6_40 C0 hH dX6_undo_1 ?_
  refine gf_X6_140 C0 hH dX6_undo_4 ?_
  refine bz_gt (tgt := 20) zx zb dX6_undo_7 (by decide) ⟨by omega, by omega⟩ (fun zq7 => ?_) (fun zq7 => ?_)
  · refine lv_aload_n zx zb dX6_undo_20 rfl (lv_at hl 0 rfl) ?_
    refine gf_X6_40 C0 hH dX6_undo_21 ?_
    refine cvN (rest := []) (As := []) (b := g.1 17) C0 hH (c_X3_stepBack l g S (by omega) (by omega)) kw_X6_145 ky_X3_stepBack ⟨Nat.le_of_ble_eq_true rfl, Nat.le_of_ble_eq_true rfl⟩ ⟨Nat.zero_le _, Nat.zero_le _⟩ 17 rfl rfl rfl hl.1 rfl (Nat.le_of_ble_eq_true rfl) dX6_undo_24 (fun H locs hH => ?_)
    refine lv_aload_n zx zb dX6_undo_27 rfl (lv_at hl 0 rfl) ?_
    refine lv_aload_n zx zb dX6_undo_28 rfl (lv_at hl 0 rfl) ?_
    refine gf_X6_40 C0 hH dX6_undo_29 ?_
    refine gf_X6_148 C0 hH dX6_undo_32 ?_
    show W p l e _ s m args below meth c H _ _ _ _ (F0 m 35 ls [.int (iI ((sbS S) 17 0)), .ref (g.1 0)])
    refine cvN (rest := []) (As := [.int (iI ((sbS S) 17 0))]) (b := g.1 0) C0 hH (c0_X6_takeBack l g (sbS S) ((sbS S) 17 0) (by show 0 ≤ (S 17 0 + 29) % 30 ∧ (S 17 0 + 29) % 30 < 30; omega) (by exact hk) (by exact hz)) kw_X6_151 ky_X6_takeBack ⟨Nat.le_of_ble_eq_true rfl, Nat.le_of_ble_eq_true rfl⟩ ⟨Nat.zero_le _, Nat.zero_le _⟩ 0 rfl rfl rfl hl.1 rfl (Nat.le_of_ble_eq_true rfl) dX6_undo_35 (fun H locs hH => ?_)
    refine lv_aload_n zx zb dX6_undo_38 rfl (lv_at hl 0 rfl) ?_
    refine gf_X6_40 C0 hH dX6_undo_39 ?_
    refine gf_X6_140 C0 hH dX6_undo_42 ?_
    show W p l e _ s m args below meth c H _ _ _ _ (F0 m 45 ls [.int (iI ((sbS S) 17 1))])
    exact retI C0 hret hlk hH (by rfl) (rfl) dX6_undo_45
  · exact absurd zq7 (by omega)
set_option maxRecDepth 100000 in
set_option maxHeartbeats 4000000 in
theorem c1_X6_undo (l : Launch) (g : gT) (S : gSt) (hh0 : 0 ≤ S 17 0 ∧ S 17 0 < 30) (hh1 : 0 ≤ S 17 1 ∧ S 17 1 ≤ 30) (hkp : 0 < S 17 1) (hk : S 18 ((S 17 0 + 29) % 30) = 1) (hz : 0 ≤ S 19 ((S 17 0 + 29) % 30) ∧ S 19 ((S 17 0 + 29) % 30) < 8) (hl0 : 0 ≤ S 20 ((S 17 0 + 29) % 30) ∧ S 20 ((S 17 0 + 29) % 30) < S 5 (S 19 ((S 17 0 + 29) % 30))) (hc : S 5 (S 19 ((S 17 0 + 29) % 30)) ≤ 10) : MetG l g yX6_undo cX6_undo 1 (some .int) 3 70 [.ref (g.1 0)] S (some (.int (iI (S 17 1 - 1)))) (lnOut (sbS S) 5 6 7 (S 19 ((S 17 0 + 29) % 30)) (S 20 ((S 17 0 + 29) % 30))) := by
  refine bodyG (by decide +kernel) (Nat.le_of_ble_eq_true rfl) ?_
  intro p e s m args below meth c ls C0 hret hlk hl hH
  have zx := C0.1
  have zb := C0.2.1
  have hl : lv_has ls 1 [(0, .ref (g.1 0))] := hl
  obtain ⟨H, hHe⟩ : ∃ H : Heap, H = s.heap := ⟨_, rfl⟩
  rw [show (Hp g S s s.heap []) = Hp g S s H [] by rw [hHe]] at hH
  rw [← hHe]
  refine lv_aload_n zx zb dX6_undo_0 rfl (lv_at hl 0 rfl) ?_
  refine gf_X6_40 C0 hH dX6_undo_1 ?_
  refine gf_X6_140 C0 hH dX6_undo_4 ?_
  refine bz_gt (tgt := 20) zx zb dX6_undo_7 (by decide) ⟨by omega, by omega⟩ (fun zq7 => ?_) (fun zq7 => ?_)
  · refine lv_aload_n zx zb dX6_undo_20 rfl (lv_at hl 0 rfl) ?_
    refine gf_X6_40 C0 hH dX6_undo_21 ?_
    refine cvN (rest := []) (As := []) (b := g.1 17) C0 hH (c_X3_stepBack l g S (by omega) (by omega)) kw_X6_145 ky_X3_stepBack ⟨Nat.le_of_ble_eq_true rfl, Nat.le_of_ble_eq_true rfl⟩ ⟨Nat.zero_le _, Nat.zero_le _⟩ 17 rfl rfl rfl hl.1 rfl (Nat.le_of_ble_eq_true rfl) dX6_undo_24 (fun H locs hH => ?_)
    refine lv_aload_n zx zb dX6_undo_27 rfl (lv_at hl 0 rfl) ?_
    refine lv_aload_n zx zb dX6_undo_28 rfl (lv_at hl 0 rfl) ?_
    refine gf_X6_40 C0 hH dX6_undo_29 ?_
    refine gf_X6_148 C0 hH dX6_undo_32 ?_
    show W p l e _ s m args below meth c H _ _ _ _ (F0 m 35 ls [.int (iI ((sbS S) 17 0)), .ref (g.1 0)])
    refine cvN (rest := []) (As := [.int (iI ((sbS S) 17 0))]) (b := g.1 0) C0 hH (c1_X6_takeBack l g (sbS S) ((sbS S) 17 0) (by show 0 ≤ (S 17 0 + 29) % 30 ∧ (S 17 0 + 29) % 30 < 30; omega) (by exact hk) (by exact hz) (by exact hl0) (by exact hc)) kw_X6_151 ky_X6_takeBack ⟨Nat.le_of_ble_eq_true rfl, Nat.le_of_ble_eq_true rfl⟩ ⟨Nat.zero_le _, Nat.zero_le _⟩ 0 rfl rfl rfl hl.1 rfl (Nat.le_of_ble_eq_true rfl) dX6_undo_35 (fun H locs hH => ?_)
    refine lv_aload_n zx zb dX6_undo_38 rfl (lv_at hl 0 rfl) ?_
    refine gf_X6_40 C0 hH dX6_undo_39 ?_
    refine gf_X6_140 C0 hH dX6_undo_42 ?_
    show W p l e _ s m args below meth c H _ _ _ _ (F0 m 45 ls [.int (iI ((sbS S) 17 1))])
    exact retI C0 hret hlk hH (by rfl) (rfl) dX6_undo_45
  · exact absurd zq7 (by omega)
set_option maxRecDepth 100000 in
set_option maxHeartbeats 4000000 in
theorem c2_X6_undo (l : Launch) (g : gT) (S : gSt) (hh0 : 0 ≤ S 17 0 ∧ S 17 0 < 30) (hh1 : 0 ≤ S 17 1 ∧ S 17 1 ≤ 30) (hkp : 0 < S 17 1) (hk : S 18 ((S 17 0 + 29) % 30) = 2) (hz : 0 ≤ S 19 ((S 17 0 + 29) % 30) ∧ S 19 ((S 17 0 + 29) % 30) < 8) (hl0 : 0 ≤ S 20 ((S 17 0 + 29) % 30) ∧ S 20 ((S 17 0 + 29) % 30) ≤ S 5 (S 19 ((S 17 0 + 29) % 30))) (hc : S 5 (S 19 ((S 17 0 + 29) % 30)) < 10) : MetG l g yX6_undo cX6_undo 1 (some .int) 3 72 [.ref (g.1 0)] S (some (.int (iI (S 17 1 - 1)))) (lnIn (sbS S) 5 6 7 (S 19 ((S 17 0 + 29) % 30)) (S 20 ((S 17 0 + 29) % 30)) (S 21 ((S 17 0 + 29) % 30)) (S 22 ((S 17 0 + 29) % 30))) := by
  refine bodyG (by decide +kernel) (Nat.le_of_ble_eq_true rfl) ?_
  intro p e s m args below meth c ls C0 hret hlk hl hH
  have zx := C0.1
  have zb := C0.2.1
  have hl : lv_has ls 1 [(0, .ref (g.1 0))] := hl
  obtain ⟨H, hHe⟩ : ∃ H : Heap, H = s.heap := ⟨_, rfl⟩
  rw [show (Hp g S s s.heap []) = Hp g S s H [] by rw [hHe]] at hH
  rw [← hHe]
  refine lv_aload_n zx zb dX6_undo_0 rfl (lv_at hl 0 rfl) ?_
  refine gf_X6_40 C0 hH dX6_undo_1 ?_
  refine gf_X6_140 C0 hH dX6_undo_4 ?_
  refine bz_gt (tgt := 20) zx zb dX6_undo_7 (by decide) ⟨by omega, by omega⟩ (fun zq7 => ?_) (fun zq7 => ?_)
  · refine lv_aload_n zx zb dX6_undo_20 rfl (lv_at hl 0 rfl) ?_
    refine gf_X6_40 C0 hH dX6_undo_21 ?_
    refine cvN (rest := []) (As := []) (b := g.1 17) C0 hH (c_X3_stepBack l g S (by omega) (by omega)) kw_X6_145 ky_X3_stepBack ⟨Nat.le_of_ble_eq_true rfl, Nat.le_of_ble_eq_true rfl⟩ ⟨Nat.zero_le _, Nat.zero_le _⟩ 17 rfl rfl rfl hl.1 rfl (Nat.le_of_ble_eq_true rfl) dX6_undo_24 (fun H locs hH => ?_)
    refine lv_aload_n zx zb dX6_undo_27 rfl (lv_at hl 0 rfl) ?_
    refine lv_aload_n zx zb dX6_undo_28 rfl (lv_at hl 0 rfl) ?_
    refine gf_X6_40 C0 hH dX6_undo_29 ?_
    refine gf_X6_148 C0 hH dX6_undo_32 ?_
    show W p l e _ s m args below meth c H _ _ _ _ (F0 m 35 ls [.int (iI ((sbS S) 17 0)), .ref (g.1 0)])
    refine cvN (rest := []) (As := [.int (iI ((sbS S) 17 0))]) (b := g.1 0) C0 hH (c2_X6_takeBack l g (sbS S) ((sbS S) 17 0) (by show 0 ≤ (S 17 0 + 29) % 30 ∧ (S 17 0 + 29) % 30 < 30; omega) (by exact hk) (by exact hz) (by exact hl0) (by exact hc)) kw_X6_151 ky_X6_takeBack ⟨Nat.le_of_ble_eq_true rfl, Nat.le_of_ble_eq_true rfl⟩ ⟨Nat.zero_le _, Nat.zero_le _⟩ 0 rfl rfl rfl hl.1 rfl (Nat.le_of_ble_eq_true rfl) dX6_undo_35 (fun H locs hH => ?_)
    refine lv_aload_n zx zb dX6_undo_38 rfl (lv_at hl 0 rfl) ?_
    refine gf_X6_40 C0 hH dX6_undo_39 ?_
    refine gf_X6_140 C0 hH dX6_undo_42 ?_
    show W p l e _ s m args below meth c H _ _ _ _ (F0 m 45 ls [.int (iI ((sbS S) 17 1))])
    exact retI C0 hret hlk hH (by rfl) (rfl) dX6_undo_45
  · exact absurd zq7 (by omega)
set_option maxRecDepth 100000 in
set_option maxHeartbeats 4000000 in
theorem x1_X6_undo (l : Launch) (g : gT) (S : gSt) (hh0 : 0 ≤ S 17 0 ∧ S 17 0 < 30) (hh1 : 0 ≤ S 17 1 ∧ S 17 1 ≤ 30) (hkp : S 17 1 = 0) (hfl : l.stackTraces = false) : ThrG l g yX6_undo cX6_undo 1 (some .int) 6 85 [.ref (g.1 0)] S "java/lang/IllegalStateException" S := by
  refine bodyX (by decide +kernel) (Nat.le_of_ble_eq_true rfl) ?_
  intro p e s m args below meth c ls C0 htab hlk hl hH
  have zx := C0.1
  have zb := C0.2.1
  have hl : lv_has ls 1 [(0, .ref (g.1 0))] := hl
  obtain ⟨H, hHe⟩ : ∃ H : Heap, H = s.heap := ⟨_, rfl⟩
  rw [show (Hp g S s s.heap []) = Hp g S s H [] by rw [hHe]] at hH
  rw [← hHe]
  refine lv_aload_n zx zb dX6_undo_0 rfl (lv_at hl 0 rfl) ?_
  refine gf_X6_40 C0 hH dX6_undo_1 ?_
  refine gf_X6_140 C0 hH dX6_undo_4 ?_
  refine bz_gt (tgt := 20) zx zb dX6_undo_7 (by decide) ⟨by omega, by omega⟩ (fun zq7 => ?_) (fun zq7 => ?_)
  · exact absurd zq7 (by omega)
  · exact thG (text := "nothing is left to undo") (names := ["java/lang/RuntimeException", "java/lang/Exception"]) hfl C0 htab hlk hH rfl (by decide +kernel) (by decide +kernel) (gm 259 (by decide +kernel) rfl) (gm 30 (by decide +kernel) rfl) (List.mem_of_getElem? (i := 533) (by decide +kernel)) (atS_ISE C0.2.2.2.2.1) gdS_ISE hl.1 dX6_undo_10 dX6_undo_13 dX6_undo_14 dX6_undo_16 dX6_undo_19 (by decide) (Nat.le_of_ble_eq_true rfl) (by decide) (by decide)
end
