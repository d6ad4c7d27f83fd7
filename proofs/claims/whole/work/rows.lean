section
-- ===== PART A: goes FIRST, ahead of the names: the tables' words, and 'selects' of the private methods out of them =====
/-- a private method of a class that the tables say can be made, by its rows of tables_1 -/
def lw_okq (q : MethodName × Nat) : Prop := (q.1.cls ≠ "java/lang/invoke/MethodHandle" ∧ q.1.cls ≠ "java/lang/invoke/VarHandle") ∧ Cond.instantiable q.1.cls q.2 ∈ tables_1 ∧ Cond.privateMethod q.1 ∈ tables_1 ∧ Cond.instanceMethod q.1 ∈ tables_1
theorem lw_p0 : lw_okq (⟨"SkyLoom", "countWrongShows", "()I"⟩, 5) := ⟨⟨by decide +kernel, by decide +kernel⟩, List.mem_of_getElem? (i := 19) (by decide +kernel), List.mem_of_getElem? (i := 181) (by decide +kernel), List.mem_of_getElem? (i := 182) (by decide +kernel)⟩
theorem lw_p1 : lw_okq (⟨"SkyLoom", "showIsWrong", "(I)Z"⟩, 5) := ⟨⟨by decide +kernel, by decide +kernel⟩, List.mem_of_getElem? (i := 19) (by decide +kernel), List.mem_of_getElem? (i := 185) (by decide +kernel), List.mem_of_getElem? (i := 186) (by decide +kernel)⟩
theorem lw_p2 : lw_okq (⟨"SkyLoom", "lowestHeight", "(III)I"⟩, 5) := ⟨⟨by decide +kernel, by decide +kernel⟩, List.mem_of_getElem? (i := 19) (by decide +kernel), List.mem_of_getElem? (i := 189) (by decide +kernel), List.mem_of_getElem? (i := 190) (by decide +kernel)⟩
theorem lw_p3 : lw_okq (⟨"java/lang/Throwable", "fillInStackTrace", "(I)Ljava/lang/Throwable;"⟩, 6) := ⟨⟨by decide +kernel, by decide +kernel⟩, List.mem_of_getElem? (i := 267) (by decide +kernel), List.mem_of_getElem? (i := 265) (by decide +kernel), List.mem_of_getElem? (i := 266) (by decide +kernel)⟩
theorem lw_p4 : lw_okq (⟨"SkyLoom", "needStar", "(I)V"⟩, 5) := ⟨⟨by decide +kernel, by decide +kernel⟩, List.mem_of_getElem? (i := 19) (by decide +kernel), List.mem_of_getElem? (i := 330) (by decide +kernel), List.mem_of_getElem? (i := 331) (by decide +kernel)⟩
theorem lw_p5 : lw_okq (⟨"SkyLoom", "needFigure", "(I)V"⟩, 5) := ⟨⟨by decide +kernel, by decide +kernel⟩, List.mem_of_getElem? (i := 19) (by decide +kernel), List.mem_of_getElem? (i := 375) (by decide +kernel), List.mem_of_getElem? (i := 376) (by decide +kernel)⟩
theorem lw_p6 : lw_okq (⟨"SkyLoom$Web", "hasStar", "(II)Z"⟩, 4) := ⟨⟨by decide +kernel, by decide +kernel⟩, List.mem_of_getElem? (i := 47) (by decide +kernel), List.mem_of_getElem? (i := 396) (by decide +kernel), List.mem_of_getElem? (i := 397) (by decide +kernel)⟩
theorem lw_p7 : lw_okq (⟨"SkyLoom", "takeBack", "(I)V"⟩, 5) := ⟨⟨by decide +kernel, by decide +kernel⟩, List.mem_of_getElem? (i := 19) (by decide +kernel), List.mem_of_getElem? (i := 429) (by decide +kernel), List.mem_of_getElem? (i := 430) (by decide +kernel)⟩
theorem lw_p8 : lw_okq (⟨"SkyLoom", "linesCross", "(II)Z"⟩, 5) := ⟨⟨by decide +kernel, by decide +kernel⟩, List.mem_of_getElem? (i := 19) (by decide +kernel), List.mem_of_getElem? (i := 462) (by decide +kernel), List.mem_of_getElem? (i := 463) (by decide +kernel)⟩
theorem lw_p9 : lw_okq (⟨"SkyLoom$Chart", "straddles", "(IIII)Z"⟩, 3) := ⟨⟨by decide +kernel, by decide +kernel⟩, List.mem_of_getElem? (i := 27) (by decide +kernel), List.mem_of_getElem? (i := 477) (by decide +kernel), List.mem_of_getElem? (i := 478) (by decide +kernel)⟩
theorem lw_p10 : lw_okq (⟨"SkyLoom$Chart", "sideOf", "(III)I"⟩, 3) := ⟨⟨by decide +kernel, by decide +kernel⟩, List.mem_of_getElem? (i := 27) (by decide +kernel), List.mem_of_getElem? (i := 481) (by decide +kernel), List.mem_of_getElem? (i := 482) (by decide +kernel)⟩
theorem lw_p11 : lw_okq (⟨"SkyLoom$Ballot", "count", "(III)V"⟩, 3) := ⟨⟨by decide +kernel, by decide +kernel⟩, List.mem_of_getElem? (i := 70) (by decide +kernel), List.mem_of_getElem? (i := 504) (by decide +kernel), List.mem_of_getElem? (i := 505) (by decide +kernel)⟩
theorem lw_p12 : lw_okq (⟨"SkyLoom$Ballot", "giveNames", "()V"⟩, 3) := ⟨⟨by decide +kernel, by decide +kernel⟩, List.mem_of_getElem? (i := 70) (by decide +kernel), List.mem_of_getElem? (i := 508) (by decide +kernel), List.mem_of_getElem? (i := 509) (by decide +kernel)⟩
theorem lw_p13 : lw_okq (⟨"SkyLoom$Ballot", "giveName", "(III)I"⟩, 3) := ⟨⟨by decide +kernel, by decide +kernel⟩, List.mem_of_getElem? (i := 70) (by decide +kernel), List.mem_of_getElem? (i := 512) (by decide +kernel), List.mem_of_getElem? (i := 513) (by decide +kernel)⟩
theorem lw_p14 : lw_okq (⟨"SkyLoom", "figureIsUp", "(III)Z"⟩, 5) := ⟨⟨by decide +kernel, by decide +kernel⟩, List.mem_of_getElem? (i := 19) (by decide +kernel), List.mem_of_getElem? (i := 559) (by decide +kernel), List.mem_of_getElem? (i := 560) (by decide +kernel)⟩
theorem lw_p15 : lw_okq (⟨"SkyLoom", "hoursOfStar", "(III)I"⟩, 5) := ⟨⟨by decide +kernel, by decide +kernel⟩, List.mem_of_getElem? (i := 19) (by decide +kernel), List.mem_of_getElem? (i := 578) (by decide +kernel), List.mem_of_getElem? (i := 579) (by decide +kernel)⟩
def lw_privs_1 : List (MethodName × Nat) := [(⟨"SkyLoom", "countWrongShows", "()I"⟩, 5), (⟨"SkyLoom", "showIsWrong", "(I)Z"⟩, 5), (⟨"SkyLoom", "lowestHeight", "(III)I"⟩, 5), (⟨"java/lang/Throwable", "fillInStackTrace", "(I)Ljava/lang/Throwable;"⟩, 6), (⟨"SkyLoom", "needStar", "(I)V"⟩, 5), (⟨"SkyLoom", "needFigure", "(I)V"⟩, 5), (⟨"SkyLoom$Web", "hasStar", "(II)Z"⟩, 4), (⟨"SkyLoom", "takeBack", "(I)V"⟩, 5), (⟨"SkyLoom", "linesCross", "(II)Z"⟩, 5), (⟨"SkyLoom$Chart", "straddles", "(IIII)Z"⟩, 3), (⟨"SkyLoom$Chart", "sideOf", "(III)I"⟩, 3), (⟨"SkyLoom$Ballot", "count", "(III)V"⟩, 3), (⟨"SkyLoom$Ballot", "giveNames", "()V"⟩, 3), (⟨"SkyLoom$Ballot", "giveName", "(III)I"⟩, 3), (⟨"SkyLoom", "figureIsUp", "(III)Z"⟩, 5), (⟨"SkyLoom", "hoursOfStar", "(III)I"⟩, 5)]
theorem lw_r1 : ∀ q ∈ lw_privs_1, lw_okq q := List.forall_mem_cons.mpr ⟨lw_p0, List.forall_mem_cons.mpr ⟨lw_p1, List.forall_mem_cons.mpr ⟨lw_p2, List.forall_mem_cons.mpr ⟨lw_p3, List.forall_mem_cons.mpr ⟨lw_p4, List.forall_mem_cons.mpr ⟨lw_p5, List.forall_mem_cons.mpr ⟨lw_p6, List.forall_mem_cons.mpr ⟨lw_p7, List.forall_mem_cons.mpr ⟨lw_p8, List.forall_mem_cons.mpr ⟨lw_p9, List.forall_mem_cons.mpr ⟨lw_p10, List.forall_mem_cons.mpr ⟨lw_p11, List.forall_mem_cons.mpr ⟨lw_p12, List.forall_mem_cons.mpr ⟨lw_p13, List.forall_mem_cons.mpr ⟨lw_p14, List.forall_mem_cons.mpr ⟨lw_p15, fun _ h => absurd h List.not_mem_nil⟩⟩⟩⟩⟩⟩⟩⟩⟩⟩⟩⟩⟩⟩⟩⟩
theorem lw_p16 : lw_okq (⟨"SkyLoomModel", "isFine", "(I)Z"⟩, 14) := ⟨⟨by decide +kernel, by decide +kernel⟩, List.mem_of_getElem? (i := 618) (by decide +kernel), List.mem_of_getElem? (i := 681) (by decide +kernel), List.mem_of_getElem? (i := 682) (by decide +kernel)⟩
theorem lw_p17 : lw_okq (⟨"SkyLoomModel", "isStar", "(I)Z"⟩, 14) := ⟨⟨by decide +kernel, by decide +kernel⟩, List.mem_of_getElem? (i := 618) (by decide +kernel), List.mem_of_getElem? (i := 689) (by decide +kernel), List.mem_of_getElem? (i := 690) (by decide +kernel)⟩
theorem lw_p18 : lw_okq (⟨"SkyLoomModel", "notes", "(IIIII)V"⟩, 14) := ⟨⟨by decide +kernel, by decide +kernel⟩, List.mem_of_getElem? (i := 618) (by decide +kernel), List.mem_of_getElem? (i := 693) (by decide +kernel), List.mem_of_getElem? (i := 694) (by decide +kernel)⟩
theorem lw_p19 : lw_okq (⟨"SkyLoomModel", "wrongNow", "()I"⟩, 14) := ⟨⟨by decide +kernel, by decide +kernel⟩, List.mem_of_getElem? (i := 618) (by decide +kernel), List.mem_of_getElem? (i := 697) (by decide +kernel), List.mem_of_getElem? (i := 698) (by decide +kernel)⟩
theorem lw_p20 : lw_okq (⟨"SkyLoomModel", "isWrongNow", "(I)Z"⟩, 14) := ⟨⟨by decide +kernel, by decide +kernel⟩, List.mem_of_getElem? (i := 618) (by decide +kernel), List.mem_of_getElem? (i := 701) (by decide +kernel), List.mem_of_getElem? (i := 702) (by decide +kernel)⟩
theorem lw_p21 : lw_okq (⟨"SkyLoomModel", "isUpNow", "(IIII)Z"⟩, 14) := ⟨⟨by decide +kernel, by decide +kernel⟩, List.mem_of_getElem? (i := 618) (by decide +kernel), List.mem_of_getElem? (i := 705) (by decide +kernel), List.mem_of_getElem? (i := 706) (by decide +kernel)⟩
theorem lw_p22 : lw_okq (⟨"SkyLoomModel", "lowest", "(IIII)I"⟩, 14) := ⟨⟨by decide +kernel, by decide +kernel⟩, List.mem_of_getElem? (i := 618) (by decide +kernel), List.mem_of_getElem? (i := 709) (by decide +kernel), List.mem_of_getElem? (i := 710) (by decide +kernel)⟩
theorem lw_p23 : lw_okq (⟨"SkyLoomModel", "heightNow", "(IIII)I"⟩, 14) := ⟨⟨by decide +kernel, by decide +kernel⟩, List.mem_of_getElem? (i := 618) (by decide +kernel), List.mem_of_getElem? (i := 713) (by decide +kernel), List.mem_of_getElem? (i := 714) (by decide +kernel)⟩
theorem lw_p24 : lw_okq (⟨"SkyLoomModel", "nameNow", "(I)I"⟩, 14) := ⟨⟨by decide +kernel, by decide +kernel⟩, List.mem_of_getElem? (i := 618) (by decide +kernel), List.mem_of_getElem? (i := 727) (by decide +kernel), List.mem_of_getElem? (i := 728) (by decide +kernel)⟩
theorem lw_p25 : lw_okq (⟨"SkyLoomModel", "gives", "()V"⟩, 14) := ⟨⟨by decide +kernel, by decide +kernel⟩, List.mem_of_getElem? (i := 618) (by decide +kernel), List.mem_of_getElem? (i := 731) (by decide +kernel), List.mem_of_getElem? (i := 732) (by decide +kernel)⟩
theorem lw_p26 : lw_okq (⟨"SkyLoomModel", "votesNow", "(II)I"⟩, 14) := ⟨⟨by decide +kernel, by decide +kernel⟩, List.mem_of_getElem? (i := 618) (by decide +kernel), List.mem_of_getElem? (i := 735) (by decide +kernel), List.mem_of_getElem? (i := 736) (by decide +kernel)⟩
theorem lw_p27 : lw_okq (⟨"SkyLoomModel", "isFigure", "(I)Z"⟩, 14) := ⟨⟨by decide +kernel, by decide +kernel⟩, List.mem_of_getElem? (i := 618) (by decide +kernel), List.mem_of_getElem? (i := 747) (by decide +kernel), List.mem_of_getElem? (i := 748) (by decide +kernel)⟩
theorem lw_p28 : lw_okq (⟨"SkyLoomModel", "hasLine", "(III)Z"⟩, 14) := ⟨⟨by decide +kernel, by decide +kernel⟩, List.mem_of_getElem? (i := 618) (by decide +kernel), List.mem_of_getElem? (i := 751) (by decide +kernel), List.mem_of_getElem? (i := 752) (by decide +kernel)⟩
theorem lw_p29 : lw_okq (⟨"SkyLoomModel", "isFree", "(II)Z"⟩, 14) := ⟨⟨by decide +kernel, by decide +kernel⟩, List.mem_of_getElem? (i := 618) (by decide +kernel), List.mem_of_getElem? (i := 755) (by decide +kernel), List.mem_of_getElem? (i := 756) (by decide +kernel)⟩
theorem lw_p30 : lw_okq (⟨"SkyLoomModel", "figureNow", "(I)I"⟩, 14) := ⟨⟨by decide +kernel, by decide +kernel⟩, List.mem_of_getElem? (i := 618) (by decide +kernel), List.mem_of_getElem? (i := 759) (by decide +kernel), List.mem_of_getElem? (i := 760) (by decide +kernel)⟩
theorem lw_p31 : lw_okq (⟨"SkyLoomModel", "isOf", "(II)Z"⟩, 14) := ⟨⟨by decide +kernel, by decide +kernel⟩, List.mem_of_getElem? (i := 618) (by decide +kernel), List.mem_of_getElem? (i := 763) (by decide +kernel), List.mem_of_getElem? (i := 764) (by decide +kernel)⟩
def lw_privs_2 : List (MethodName × Nat) := [(⟨"SkyLoomModel", "isFine", "(I)Z"⟩, 14), (⟨"SkyLoomModel", "isStar", "(I)Z"⟩, 14), (⟨"SkyLoomModel", "notes", "(IIIII)V"⟩, 14), (⟨"SkyLoomModel", "wrongNow", "()I"⟩, 14), (⟨"SkyLoomModel", "isWrongNow", "(I)Z"⟩, 14), (⟨"SkyLoomModel", "isUpNow", "(IIII)Z"⟩, 14), (⟨"SkyLoomModel", "lowest", "(IIII)I"⟩, 14), (⟨"SkyLoomModel", "heightNow", "(IIII)I"⟩, 14), (⟨"SkyLoomModel", "nameNow", "(I)I"⟩, 14), (⟨"SkyLoomModel", "gives", "()V"⟩, 14), (⟨"SkyLoomModel", "votesNow", "(II)I"⟩, 14), (⟨"SkyLoomModel", "isFigure", "(I)Z"⟩, 14), (⟨"SkyLoomModel", "hasLine", "(III)Z"⟩, 14), (⟨"SkyLoomModel", "isFree", "(II)Z"⟩, 14), (⟨"SkyLoomModel", "figureNow", "(I)I"⟩, 14), (⟨"SkyLoomModel", "isOf", "(II)Z"⟩, 14)]
theorem lw_r2 : ∀ q ∈ lw_privs_2, lw_okq q := List.forall_mem_cons.mpr ⟨lw_p16, List.forall_mem_cons.mpr ⟨lw_p17, List.forall_mem_cons.mpr ⟨lw_p18, List.forall_mem_cons.mpr ⟨lw_p19, List.forall_mem_cons.mpr ⟨lw_p20, List.forall_mem_cons.mpr ⟨lw_p21, List.forall_mem_cons.mpr ⟨lw_p22, List.forall_mem_cons.mpr ⟨lw_p23, List.forall_mem_cons.mpr ⟨lw_p24, List.forall_mem_cons.mpr ⟨lw_p25, List.forall_mem_cons.mpr ⟨lw_p26, List.forall_mem_cons.mpr ⟨lw_p27, List.forall_mem_cons.mpr ⟨lw_p28, List.forall_mem_cons.mpr ⟨lw_p29, List.forall_mem_cons.mpr ⟨lw_p30, List.forall_mem_cons.mpr ⟨lw_p31, fun _ h => absurd h List.not_mem_nil⟩⟩⟩⟩⟩⟩⟩⟩⟩⟩⟩⟩⟩⟩⟩⟩
theorem lw_p32 : lw_okq (⟨"SkyLoomModel", "puts", "(IIII)V"⟩, 14) := ⟨⟨by decide +kernel, by decide +kernel⟩, List.mem_of_getElem? (i := 618) (by decide +kernel), List.mem_of_getElem? (i := 767) (by decide +kernel), List.mem_of_getElem? (i := 768) (by decide +kernel)⟩
theorem lw_p33 : lw_okq (⟨"SkyLoomModel", "takes", "(II)V"⟩, 14) := ⟨⟨by decide +kernel, by decide +kernel⟩, List.mem_of_getElem? (i := 618) (by decide +kernel), List.mem_of_getElem? (i := 775) (by decide +kernel), List.mem_of_getElem? (i := 776) (by decide +kernel)⟩
theorem lw_p34 : lw_okq (⟨"SkyLoomModel", "cross", "(II)Z"⟩, 14) := ⟨⟨by decide +kernel, by decide +kernel⟩, List.mem_of_getElem? (i := 618) (by decide +kernel), List.mem_of_getElem? (i := 807) (by decide +kernel), List.mem_of_getElem? (i := 808) (by decide +kernel)⟩
theorem lw_p35 : lw_okq (⟨"SkyLoomModel", "side", "(III)I"⟩, 14) := ⟨⟨by decide +kernel, by decide +kernel⟩, List.mem_of_getElem? (i := 618) (by decide +kernel), List.mem_of_getElem? (i := 814) (by decide +kernel), List.mem_of_getElem? (i := 815) (by decide +kernel)⟩
theorem lw_p36 : lw_okq (⟨"SkyLoomModel", "hoursNow", "(III)I"⟩, 14) := ⟨⟨by decide +kernel, by decide +kernel⟩, List.mem_of_getElem? (i := 618) (by decide +kernel), List.mem_of_getElem? (i := 845) (by decide +kernel), List.mem_of_getElem? (i := 846) (by decide +kernel)⟩
def lw_privs_3 : List (MethodName × Nat) := [(⟨"SkyLoomModel", "puts", "(IIII)V"⟩, 14), (⟨"SkyLoomModel", "takes", "(II)V"⟩, 14), (⟨"SkyLoomModel", "cross", "(II)Z"⟩, 14), (⟨"SkyLoomModel", "side", "(III)I"⟩, 14), (⟨"SkyLoomModel", "hoursNow", "(III)I"⟩, 14)]
theorem lw_r3 : ∀ q ∈ lw_privs_3, lw_okq q := List.forall_mem_cons.mpr ⟨lw_p32, List.forall_mem_cons.mpr ⟨lw_p33, List.forall_mem_cons.mpr ⟨lw_p34, List.forall_mem_cons.mpr ⟨lw_p35, List.forall_mem_cons.mpr ⟨lw_p36, fun _ h => absurd h List.not_mem_nil⟩⟩⟩⟩⟩
def lw_privs : List (MethodName × Nat) := lw_privs_1 ++ (lw_privs_2 ++ (lw_privs_3))
def lw_tbl : List Cond := k2_sels lw_privs ++ tables_1
theorem lw_privs_ok : ∀ q ∈ lw_privs, lw_okq q := by
  show ∀ q ∈ lw_privs_1 ++ (lw_privs_2 ++ (lw_privs_3)), lw_okq q
  exact List.forall_mem_append.mpr ⟨lw_r1, List.forall_mem_append.mpr ⟨lw_r2, lw_r3⟩⟩
end
section
/-! ===== BEGIN words of one list among another's, by their places ===== -/
theorem goodIn_r {big : List Cond} (ws : List Cond) (ps : List Nat) (hp : ws = ps.filterMap (fun i => big[i]?)) (h : ws.all goodWord = true) : GoodIn big ws := by
  intro w hw
  have h1 := List.all_eq_true.mp h w hw
  rw [hp] at hw
  obtain ⟨i, -, hi⟩ := List.mem_filterMap.mp hw
  have hm : w ∈ big := by first | exact List.mem_of_getElem? hi | exact List.getElem?_mem hi
  exact ⟨hm, good_of_word h1⟩
theorem goodIn_app {big a b : List Cond} (ha : GoodIn big a) (hb : GoodIn big b) : GoodIn big (a ++ b) := fun w h => (List.mem_append.mp h).elim (ha w) (hb w)
theorem goodIn_ca {big a b : List Cond} {c : Cond} (ha : GoodIn big (c :: a)) (hb : GoodIn big b) : GoodIn big (c :: (a ++ b)) := fun w h => (List.mem_cons.mp h).elim (fun e => ha w (List.mem_cons.mpr (Or.inl e))) (fun h => (List.mem_append.mp h).elim (fun h => ha w (List.mem_cons.mpr (Or.inr h))) (hb w))
theorem goodIn_sub {big ws : List Cond} (hm : ∀ w ∈ ws, w ∈ big) (h : ws.all goodWord = true) : GoodIn big ws := fun w hw => ⟨hm w hw, good_of_word (List.all_eq_true.mp h w hw)⟩
/-! ===== END ===== -/

/-! ===== BEGIN exceptions that leave a method, and their catching by the caller (launches without stack traces) ===== -/
section VXA
/-! The laws vx_back, vx_callV, vx_callS, vx_callSW, vx_throw0, vx_throwS follow proofs of the library, with one case more: JvmDerived/Free/Laws.lean (Back.of_free), Shelf42/LK1.lean (callV, callS), Shelf/KitTraced.lean (throwNew0V, throwNewS). -/
/-- where a method has thrown q: the class by its name, the cell, what was written, the world -/
def vx_T (XC : String → State → State → Prop) (st : State) (q : Addr) (t : State) (mc ms : Nat) (free : Addr → Prop) : Prop :=
  ∃ (E : String) (ce : Cell) (L : List Loc), XC E st t ∧ t.heap[q]? = some ce ∧ ce.vm = .none ∧ st.vm.findClass E = some ce.cls ∧ st.WarmedH t.vm ∧ st.sameButNew ({ t with vm := st.vm } : State) L mc ms ∧ ∀ z ∈ L, free z.base
def vx_Q (Qc : Array Value → State → Outcome → State → Prop) (XC : String → State → State → Prop) (mc ms : Nat) (free : Addr → Prop) : Array Value → State → Outcome → State → Prop := fun a st o t =>
  (Qc a st o t ∧ ∃ L, FrameEnd st o t L mc ms ∧ ∀ q ∈ L, free q.base) ∨ ∃ q, o = .threw q ∧ vx_T XC st q t mc ms free
/-- a callee that returns or throws -/
def vx_Met (l : Launch) (y : MethodName) (ws : List Cond) (rm : Room) (Pc : Array Value → State → Prop) (Qc : Array Value → State → Outcome → State → Prop) (XC : String → State → State → Prop) (mc ms : Nat) (free : Addr → Prop) : Prop :=
  MetFree l y (headSpec ws rm) Pc (fun _ _ _ _ _ => True) (vx_Q Qc XC mc ms free)
def vx_Post (XC : String → State → State → Prop) (mc ms : Nat) (free : Addr → Prop) : Pt → Array Value → Addr → Pt → Prop := fun A a q B =>
  ∃ (g : JFrame) (mk : MethodId) (t : State) (L : List Loc) (E : String) (ce : Cell), B.U.heap = t.heap ∧ B.U.vm = t.vm ∧ XC E (A.U.calling g mk a) t ∧ t.heap[q]? = some ce ∧ ce.vm = .none ∧ A.U.vm.findClass E = some ce.cls ∧ B.locs = A.locs ++ L ∧ (∀ z ∈ L, free z.base) ∧ B.cells = A.cells + mc ∧ B.slots = A.slots + ms
def vx_Back (l : Launch) (R : Room) (p : Program) (e : Env) (below : List Frame) (s : State) (sargs : Array Value) (y : MethodName) (len W9 : Nat)
    (Pre : Pt → Array Value → Prop) (Post : Pt → Array Value → Option Value → Pt → Prop) (PostX : Pt → Array Value → Addr → Pt → Prop) : Prop :=
  ∀ (m : MethodId) (meth : Method) (c : Code) (A : Pt) (g : JFrame) (ig : Instr) (mk : MethodId) (a : Array Value),
    Stand p l e R s m sargs below meth c A.U A.locs A.cells A.slots → g.method = m → g.locals.size = c.maxLocals → decode c.code g.pc = .ok (ig, len) →
    2 * g.monitorRoom + (g.stack.map fun v => v.category).sum ≤ W9 → A.U.methodNamed? y = some mk → Pre A a →
    (∃ (v : Option Value) (B : Pt), Stand p l e R s m sargs below meth c B.U B.locs B.cells B.slots ∧ Post A a v B ∧
      Steps p.tables e below (doInvoke e (A.U.setTop g) [] mk a).1 (B.U.setTop { g with pc := g.pc + len, stack := v.toList ++ g.stack })) ∨
    (∃ (q : Addr) (B : Pt), Stand p l e R s m sargs below meth c B.U B.locs B.cells B.slots ∧ PostX A a q B ∧
      Steps p.tables e below (doInvoke e (A.U.setTop g) [] mk a).1 ((B.U.setTop g).pushFrame (.throwing q)))
section Payer
variable {l : Launch} {R : Room} {p : Program} {e : Env} {below : List Frame} {s : State} {sargs : Array Value} {y : MethodName} {len W9 : Nat}
theorem vx_back {ws : List Cond} {rm : Room} {Pc : Array Value → State → Prop} {Qc : Array Value → State → Outcome → State → Prop} {XC : String → State → State → Prop} {mc ms : Nat} {free : Addr → Prop} {bytes : ByteArray} {maxL : Nat} {ret : Option FieldType}
    (hM : vx_Met l y ws rm Pc Qc XC mc ms free) (hblind : FrameBlind Pc) (hrc : rm.cells = mc) (hrs : rm.slots = ms)
    (hframes : rm.frames + 1 ≤ R.frames) (hlocals : W9 + (maxL + 11) + rm.locals ≤ R.locals)
    (hws : ∀ w ∈ ws, ∀ a' U, s.WarmedH U.vm → w.before a' U = true) (hcode : Cond.code y bytes maxL ret ∈ ws) (hinit : ∀ a' U, s.WarmedH U.vm → (Cond.initialized y.cls).before a' U = true) :
    vx_Back l R p e below s sargs y len W9 (PreOf R mc ms Pc) (PostOf Qc mc ms free) (vx_Post XC mc ms free) := by
  intro m meth c A g ig mk a X hg hsize hdg hW hn hp
  have h1 : (headSpec ws rm).pre.before a A.U = true := atoms_intro fun w hw => hws w hw _ _ X.warmed
  have h2 : (Cond.code y bytes maxL ret).before a A.U = true := hws _ hcode _ _ X.warmed
  have h3 : (Cond.initialized y.cls).before a A.U = true := hinit _ _ X.warmed
  have h4 : A.cells + (headSpec ws rm).room.cells ≤ R.cells := by rw [show (headSpec ws rm).room.cells = mc from hrc]; exact hp.1
  have h5 : A.slots + (headSpec ws rm).room.slots ≤ R.slots := by rw [show (headSpec ws rm).room.slots = ms from hrs]; exact hp.2.1
  have hPc : Pc a (A.U.calling g mk a) := hblind _ _ _ _ hp.2.2
  obtain ⟨U, Ls, c0, s0⟩ := A
  dsimp only [Pt.U, Pt.locs, Pt.cells, Pt.slots] at h1 h2 h3 h4 h5 X hn hPc ⊢
  obtain ⟨methY, cY, hmY, hcY, -, hlY, -, -, -, -⟩ := Cond.code_spec hn h2
  obtain ⟨kY, hkY, -⟩ := className_of_methodNamed hn
  have hinitY : kY.init = .initialized := Cond.initialized_spec (findClass_of_methodNamed hn) hkY h3
  have h : At U g.method c below := by rw [hg]; exact X.here
  have hlocals9 : W9 + (maxL + 11) + (headSpec ws rm).room.locals ≤ R.locals := hlocals
  have happ : (headSpec ws rm).appliesLoose y e.platform (U.calling g mk a) = true :=
    Spec.appliesLoose_calling (g := g) h hdg hn hkY hinitY
      (X.room_calling (g := g) (R' := (headSpec ws rm).room) hsize hmY hcY hframes (by rw [hlY]; omega) h4 h5) h1
  obtain ⟨mid, hmid⟩ := h.above
  have hfr : (U.setTop g).frames = (.java g :: mid) ++ below := by rw [State.frames_setTop' g h.top, hmid]; rfl
  obtain ⟨o, s₂, hsteps, -, hend, hq⟩ := Steps.callFree hM p X.admits X.cas X.clock (acts := []) hfr happ hPc trivial
  have hq' : vx_Q Qc XC mc ms free a (U.calling g mk a) o s₂ := hq
  rw [State.frames_setTop' g h.top] at hend
  obtain ⟨g₀, hg0⟩ := Option.isSome_iff_exists.mp h.top
  obtain ⟨r, hr⟩ := State.topJava?_eq_some.mp hg0
  have hr' : (({ U with heap := s₂.heap, slotsUsed := s₂.slotsUsed } : State).setVm s₂.vm).frames = .java g₀ :: r := hr
  rcases hq' with ⟨hqc, L, hfe, hL⟩ | ⟨q, rfl, E, ce, L, hx, hce, hcv, hcl, hW₂, hsm, hL⟩
  · obtain ⟨⟨v, rfl⟩, hW₂, e2, q2, q3, q4, q5, q6⟩ := id hfe
    have e3 : s₂ = ({ (U.calling g mk a).setFrames s₂.frames with heap := s₂.heap, slotsUsed := s₂.slotsUsed } : State).setVm s₂.vm := by
      have : s₂ = ({ s₂ with vm := (U.calling g mk a).vm } : State).setVm s₂.vm := rfl
      rw [e2] at this
      exact this
    obtain ⟨c₂, i₂, len₂, hc₂, hd₂, hf₂⟩ := hend
    have hW' : U.WarmedH s₂.vm := hW₂
    have hcc : c₂ = c := by
      have h1 : s₂.code? g.method = U.code? g.method := by
        rw [State.code?_eq, State.code?_eq, hW'.alike.method?]
      exact Option.some.inj (hc₂.symm.trans (h1.trans h.code))
    subst hcc
    have hlen : len₂ = len := by rw [hdg] at hd₂; cases hd₂; rfl
    subst hlen
    have hs₂ : s₂ = (({ U with heap := s₂.heap, slotsUsed := s₂.slotsUsed } : State).setVm s₂.vm).setTop { g with pc := g.pc + len₂, stack := v.toList ++ g.stack } := by
      refine e3.trans ?_
      rw [hf₂, State.calling_eq h.top, State.setFrames_setFrames, State.setTop_of_frames _ hr', hr]
      rfl
    have hsame : U.sameButNew ({ U with heap := s₂.heap, slotsUsed := s₂.slotsUsed } : State) L mc ms := by
      refine ⟨?_, q2, q3, q4, q5, q6⟩
      obtain ⟨t, ht, -⟩ := State.frames_cons hr
      show ({ U with heap := s₂.heap, slotsUsed := s₂.slotsUsed } : State) = { U.setFrames U.frames with heap := s₂.heap, slotsUsed := s₂.slotsUsed }
      rw [State.setFrames_self ht]
    subst hg
    refine Or.inl ⟨v, ⟨(({ U with heap := s₂.heap, slotsUsed := s₂.slotsUsed } : State).setVm s₂.vm), Ls ++ L, c0 + mc, s0 + ms⟩,
      ⟨X.admits, X.cas, X.clock, X.frames, X.room, X.hears, X.method, X.code, (X.here.setHeapUsed s₂.heap s₂.slotsUsed).setVm hW'.alike, X.tail, State.WarmedH.trans X.warmed hW', X.limits, X.bytes, X.same.trans (hsame.setVm s.vm)⟩,
      ⟨g, mk, s₂, L, rfl, rfl, hqc, rfl, hL, rfl, rfl⟩, ?_⟩
    show Steps p.tables e below _ ((({ U with heap := s₂.heap, slotsUsed := s₂.slotsUsed } : State).setVm s₂.vm).setTop { g with pc := g.pc + len₂, stack := v.toList ++ g.stack })
    rw [← hs₂]
    exact hsteps
  · obtain ⟨e2, q2, q3, q4, q5, q6⟩ := id hsm
    have e3 : s₂ = ({ (U.calling g mk a).setFrames s₂.frames with heap := s₂.heap, slotsUsed := s₂.slotsUsed } : State).setVm s₂.vm := by
      have : s₂ = ({ s₂ with vm := (U.calling g mk a).vm } : State).setVm s₂.vm := rfl
      rw [e2] at this
      exact this
    have hf₂ : s₂.frames = .throwing q :: .java g :: U.frames.tail := hend
    have hW' : U.WarmedH s₂.vm := hW₂
    have hs₂ : s₂ = ((({ U with heap := s₂.heap, slotsUsed := s₂.slotsUsed } : State).setVm s₂.vm).setTop g).pushFrame (.throwing q) := by
      refine e3.trans ?_
      rw [hf₂, State.calling_eq h.top, State.setFrames_setFrames, State.pushFrame, State.frames_setTop _ hr', State.setTop_of_frames _ hr', State.setFrames_setFrames, hr]
      rfl
    have hsame : U.sameButNew ({ U with heap := s₂.heap, slotsUsed := s₂.slotsUsed } : State) L mc ms := by
      refine ⟨?_, q2, q3, q4, q5, q6⟩
      obtain ⟨t, ht, -⟩ := State.frames_cons hr
      show ({ U with heap := s₂.heap, slotsUsed := s₂.slotsUsed } : State) = { U.setFrames U.frames with heap := s₂.heap, slotsUsed := s₂.slotsUsed }
      rw [State.setFrames_self ht]
    subst hg
    refine Or.inr ⟨q, ⟨(({ U with heap := s₂.heap, slotsUsed := s₂.slotsUsed } : State).setVm s₂.vm), Ls ++ L, c0 + mc, s0 + ms⟩,
      ⟨X.admits, X.cas, X.clock, X.frames, X.room, X.hears, X.method, X.code, (X.here.setHeapUsed s₂.heap s₂.slotsUsed).setVm hW'.alike, X.tail, State.WarmedH.trans X.warmed hW', X.limits, X.bytes, X.same.trans (hsame.setVm s.vm)⟩,
      ⟨g, mk, s₂, L, E, ce, rfl, rfl, hx, hce, hcv, hcl, rfl, hL, rfl, rfl⟩, ?_⟩
    show Steps p.tables e below _ (((({ U with heap := s₂.heap, slotsUsed := s₂.slotsUsed } : State).setVm s₂.vm).setTop g).pushFrame (.throwing q))
    rw [← hs₂]
    exact hsteps
end Payer
section Calls
variable {p : Program} {l : Launch} {e : Env} {R : Room} {s : State} {m : MethodId} {args : Array Value} {below : List Frame} {meth : Method} {c : Code} {T : State} {locs : List Loc} {cells slots : Nat}
theorem vx_callV (X : Stand p l e R s m args below meth c T locs cells slots) (hexec : p.tables.exec = Jvm.exec) {own C : String} {index : Nat} {y : MethodName} {bytes : ByteArray} {maxL : Nat} {ret : Option FieldType}
    (hown : s.vm.findClass own = some m.cls) (hlink : (Cond.methodLink own index y).before args s = true) (hinst : (Cond.instanceMethod y).before args s = true) (hsel : (Cond.selects C y y).before args s = true)
    (hcode : (Cond.code y bytes maxL ret).before args s = true) (hy : y.cls ≠ "java/lang/invoke/MethodHandle" ∧ y.cls ≠ "java/lang/invoke/VarHandle")
    {W9 : Nat} {Pre : Pt → Array Value → Prop} {Post : Pt → Array Value → Option Value → Pt → Prop} {PostX : Pt → Array Value → Addr → Pt → Prop} (hK : vx_Back l R p e below s args y 3 W9 Pre Post PostX)
    {b : Addr} {cellB : Cell} (hcell : T.heap[b]? = some cellB) (hobj : cellB.vm.isStatics = false) (hcls : s.vm.findClass C = some cellB.cls)
    {g : JFrame} (hg : g.method = m) (hsize : g.locals.size = c.maxLocals) {argsL rest : List Value} (hlen : ∀ sig, parseMethodDescriptor y.desc = some sig → argsL.length = sig.parameters.length)
    (hstack : g.stack = argsL.reverse ++ .ref b :: rest) (hW : 2 * g.monitorRoom + (rest.map fun v => v.category).sum ≤ W9) (hdg : decode c.code g.pc = .ok (.invokevirtual index, 3))
    (hpre : ∀ vm₁, s.WarmedH vm₁ → Pre ⟨T.setVm vm₁, locs, cells, slots⟩ (Value.ref b :: argsL).toArray) :
    (∃ (v : Option Value) (vm₁ : Vm) (B : Pt), s.WarmedH vm₁ ∧ Stand p l e R s m args below meth c B.U B.locs B.cells B.slots ∧ Post ⟨T.setVm vm₁, locs, cells, slots⟩ (Value.ref b :: argsL).toArray v B ∧
      ∀ target, Steps p.tables e below (B.U.setTop { g with pc := g.pc + 3, stack := v.toList ++ rest }) target → Steps p.tables e below (T.setTop g) target) ∨
    (∃ (q : Addr) (vm₁ : Vm) (B : Pt), s.WarmedH vm₁ ∧ Stand p l e R s m args below meth c B.U B.locs B.cells B.slots ∧ PostX ⟨T.setVm vm₁, locs, cells, slots⟩ (Value.ref b :: argsL).toArray q B ∧
      Steps p.tables e below (T.setTop g) ((B.U.setTop { g with stack := rest }).pushFrame (.throwing q))) := by
  obtain ⟨mk, methM, hnamed, hmethM, hstM, habM⟩ := Cond.instanceMethod_spec hinst
  obtain ⟨methM', cM, hmethM', -, -, -, -, -, -, hsigM⟩ := Cond.code_spec hnamed hcode
  cases hmethM.symm.trans hmethM'
  obtain ⟨c2, r2, m2, q1, q2, q3, q4, kP, hkP, hkPi⟩ := Cond.selects_spec hsel
  cases hcls.symm.trans q1
  cases (State.methodFound?_of_named hnamed hy).symm.trans q2
  cases hnamed.symm.trans q3
  have hselP : selectMethod e.platform s.vm cellB.cls mk = .method mk := by rw [Launch.admits_selectMethod X.admits]; exact q4
  obtain ⟨vm₁, X₁, hstep₁⟩ := X.invokevirtual hexec hown hlink hnamed hmethM hstM hkP hkPi hy (a := b) (cell := cellB) hcell
    (fun z h => by rw [h] at hobj; cases hobj) hselP hmethM habM hkP hkPi (g := g) hg (argsL := argsL) (rest := rest) (hlen _ hsigM) hstack hdg
  rcases hK m meth c ⟨T.setVm vm₁, locs, cells, slots⟩ { g with stack := rest } (.invokevirtual index) mk (Value.ref b :: argsL).toArray X₁ hg hsize hdg hW (X₁.named hnamed) (hpre vm₁ X₁.warmed) with ⟨v, B, X', hpost, hsteps⟩ | ⟨q, B, X', hpost, hsteps⟩
  · exact Or.inl ⟨v, vm₁, B, X₁.warmed, X', hpost, fun target h => hstep₁ _ fun acts => by rw [doInvoke_state]; exact hsteps.trans h⟩
  · exact Or.inr ⟨q, vm₁, B, X₁.warmed, X', hpost, hstep₁ _ fun acts => by rw [doInvoke_state]; exact hsteps⟩
theorem vx_callS (X : Stand p l e R s m args below meth c T locs cells slots) (hexec : p.tables.exec = Jvm.exec) {own : String} {index : Nat} {y : MethodName} {bytes : ByteArray} {maxL : Nat} {ret : Option FieldType}
    (hown : s.vm.findClass own = some m.cls) (hlink : (Cond.methodLink own index y).before args s = true) (hstat : (Cond.static y).before args s = true) (hinit : (Cond.initialized y.cls).before args s = true)
    (hcode : (Cond.code y bytes maxL ret).before args s = true) (hy : y.cls ≠ "java/lang/invoke/MethodHandle" ∧ y.cls ≠ "java/lang/invoke/VarHandle")
    {W9 : Nat} {Pre : Pt → Array Value → Prop} {Post : Pt → Array Value → Option Value → Pt → Prop} {PostX : Pt → Array Value → Addr → Pt → Prop} (hK : vx_Back l R p e below s args y 3 W9 Pre Post PostX)
    {g : JFrame} (hg : g.method = m) (hsize : g.locals.size = c.maxLocals) {argsL rest : List Value} (hlen : ∀ sig, parseMethodDescriptor y.desc = some sig → argsL.length = sig.parameters.length)
    (hstack : g.stack = argsL.reverse ++ rest) (hW : 2 * g.monitorRoom + (rest.map fun v => v.category).sum ≤ W9) (hdg : decode c.code g.pc = .ok (.invokestatic index, 3))
    (hpre : ∀ vm₁, s.WarmedH vm₁ → Pre ⟨T.setVm vm₁, locs, cells, slots⟩ argsL.toArray) :
    (∃ (v : Option Value) (vm₁ : Vm) (B : Pt), s.WarmedH vm₁ ∧ Stand p l e R s m args below meth c B.U B.locs B.cells B.slots ∧ Post ⟨T.setVm vm₁, locs, cells, slots⟩ argsL.toArray v B ∧
      ∀ target, Steps p.tables e below (B.U.setTop { g with pc := g.pc + 3, stack := v.toList ++ rest }) target → Steps p.tables e below (T.setTop g) target) ∨
    (∃ (q : Addr) (vm₁ : Vm) (B : Pt), s.WarmedH vm₁ ∧ Stand p l e R s m args below meth c B.U B.locs B.cells B.slots ∧ PostX ⟨T.setVm vm₁, locs, cells, slots⟩ argsL.toArray q B ∧
      Steps p.tables e below (T.setTop g) ((B.U.setTop { g with stack := rest }).pushFrame (.throwing q))) := by
  obtain ⟨mk, hnamed⟩ := Cond.code_named hcode
  obtain ⟨methM, cM, hmethM, -, -, -, -, -, -, hsigM⟩ := Cond.code_spec hnamed hcode
  have hstatic : methM.isStatic = true := Cond.static_spec hnamed hmethM hstat
  obtain ⟨kP, hkP, -⟩ := className_of_methodNamed hnamed
  have hinitP : kP.init = .initialized := Cond.initialized_spec (findClass_of_methodNamed hnamed) hkP hinit
  obtain ⟨vm₁, X₁, hstep₁⟩ := X.invokestatic hexec hown hlink hnamed hmethM hstatic hkP hinitP hy (g := g) hg (argsL := argsL) (rest := rest) (hlen _ hsigM) hstack hdg
  rcases hK m meth c ⟨T.setVm vm₁, locs, cells, slots⟩ { g with stack := rest } (.invokestatic index) mk argsL.toArray X₁ hg hsize hdg hW (X₁.named hnamed) (hpre vm₁ X₁.warmed) with ⟨v, B, X', hpost, hsteps⟩ | ⟨q, B, X', hpost, hsteps⟩
  · exact Or.inl ⟨v, vm₁, B, X₁.warmed, X', hpost, fun target h => hstep₁ _ fun acts => by rw [doInvoke_state]; exact hsteps.trans h⟩
  · exact Or.inr ⟨q, vm₁, B, X₁.warmed, X', hpost, hstep₁ _ fun acts => by rw [doInvoke_state]; exact hsteps⟩
end Calls
theorem vx_cls {s : State} {T : State} {vm₁ : Vm} {E : String} {k : ClassId} (hW : s.WarmedH vm₁) (h : (T.setVm vm₁).vm.findClass E = some k) : s.vm.findClass E = some k := by
  have h1 : vm₁.findClass E = some k := h
  rw [hW.alike.findClass] at h1
  exact h1
/-- the method's frame g, with q thrown over it -/
def vx_W (p : Program) (l : Launch) (e : Env) (R : Room) (s : State) (m : MethodId) (args : Array Value) (below : List Frame) (meth : Method) (c : Code) (H : Heap) (locs : List Loc) (cells slots : Nat) (Q : State → Prop) (g : JFrame) (q : Addr) : Prop :=
  ∀ T : State, T.heap = H → Stand p l e R s m args below meth c T locs cells slots → ∃ t, Steps p.tables e below ((T.setTop g).pushFrame (.throwing q)) t ∧ Q t
def vx_Run (p : Program) (l : Launch) (e : Env) (R : Room) (s : State) (m : MethodId) (args : Array Value) (below : List Frame) (meth : Method) (c : Code) (H : Heap) (locs : List Loc) (cells slots mc ms : Nat) (g : JFrame) (rest : List Value) (Qa : State → Outcome → State → Prop) (XC : String → State → State → Prop) (free : Addr → Prop) : Prop :=
  ∀ T : State, T.heap = H → Stand p l e R s m args below meth c T locs cells slots →
    (∃ (v : Option Value) (st₀ t T' : State) (L : List Loc), st₀.heap = H ∧ Stand p l e R s m args below meth c T' (locs ++ L) (cells + mc) (slots + ms) ∧ (∀ q ∈ L, free q.base) ∧ T'.heap = t.heap ∧ T'.vm = t.vm ∧ Qa st₀ (.returned v) t ∧
      Goes p e below T g T' { g with pc := g.pc + 3, stack := v.toList ++ rest }) ∨
    (∃ (q : Addr) (st₀ t T' : State) (L : List Loc) (E : String) (ce : Cell), st₀.heap = H ∧ Stand p l e R s m args below meth c T' (locs ++ L) (cells + mc) (slots + ms) ∧ (∀ z ∈ L, free z.base) ∧ T'.heap = t.heap ∧ T'.vm = t.vm ∧ XC E st₀ t ∧ t.heap[q]? = some ce ∧ ce.vm = .none ∧ s.vm.findClass E = some ce.cls ∧
      Steps p.tables e below (T.setTop g) ((T'.setTop { g with stack := rest }).pushFrame (.throwing q)))
def vx_X {S : Type} (px : S → Prop) (B : String → S → State → Prop) (A : Nat → Prop) : String → State → State → Prop := fun E st t => ∃ u : S, px u ∧ B E u t ∧ va_F A st t
section Runs
variable {p : Program} {l : Launch} {e : Env} {R : Room} {s : State} {m : MethodId} {args : Array Value} {below : List Frame} {meth : Method} {c : Code} {H : Heap} {locs : List Loc} {cells slots : Nat}
variable {y : MethodName} {bytes cc : ByteArray} {maxL nL mc ms n index : Nat} {ret : Option FieldType} {ws : List Cond} {rm : Room} {Pc : Array Value → State → Prop} {Qc : Array Value → State → Outcome → State → Prop} {XC : String → State → State → Prop} {free : Addr → Prop} {Ts : List Cond} {own C : String} {b : Addr} {As rest : List Value} {g : JFrame}
theorem vx_callBack (cb : CallB R s args own index y bytes maxL ret ws rm mc ms n) (hM : vx_Met l y ws rm Pc Qc XC mc ms free) (hbl : FrameBlind Pc) : vx_Back l R p e below s args y 3 8 (PreOf R mc ms Pc) (PostOf Qc mc ms free) (vx_Post XC mc ms free) := by
  obtain ⟨hrc, hrs, hfr, hlo, hws, hcw, -, hini, -⟩ := cb
  exact vx_back (bytes := bytes) (maxL := maxL) (ret := ret) hM hbl hrc hrs hfr hlo hws hcw (fun a' U hW => word_at hW (Or.inl (by first | rfl | simp [Cond.onTables, Cond.keeps, Cond.steady])) hini)
theorem vx_runV (S : CallFix p m c cc nL s args Ts own) (hM : vx_Met l y ws rm Pc Qc XC mc ms free) (cw : CallW R s args own C index y bytes maxL ret ws rm mc ms n) (hp : PreV s H C b Pc As)
    (hg : g.method = m) (hn : As.length = n) (hsize : g.locals.size = nL) (hstack : g.stack = As.reverse ++ .ref b :: rest) (hW : 2 * g.monitorRoom + (rest.map fun v => v.category).sum ≤ 8) (hdg : decode cc g.pc = .ok (.invokevirtual index, 3)) (hf : cells + mc ≤ R.cells ∧ slots + ms ≤ R.slots) :
    vx_Run p l e R s m args below meth c H locs cells slots mc ms g rest (Qc (Value.ref b :: As).toArray) XC free := by
  have hK : vx_Back l R p e below s args y 3 8 (PreOf R mc ms Pc) (PostOf Qc mc ms free) (vx_Post XC mc ms free) := vx_callBack cw.1 hM hp.1
  obtain ⟨⟨-, -, -, -, -, -, hcode, -, hy, hlen, hl⟩, hin, hse⟩ := cw
  obtain ⟨hx, hb, hml, ho, -⟩ := S
  obtain ⟨-, ⟨cellB, hcB, hoB, hclB⟩, hPc⟩ := hp
  intro T hT X
  rcases vx_callV X hx (C := C) (bytes := bytes) (maxL := maxL) (ret := ret) ho hl hin hse hcode hy hK (by rw [hT]; exact hcB) hoB hclB hg (hsize.trans hml.symm) (argsL := As) (rest := rest) (fun sig h => hn.trans (hlen sig h)) hstack hW (by rw [hb]; exact hdg)
    (fun vm₁ hW₁ => ⟨hf.1, hf.2, hPc (T.setVm vm₁) hT hW₁⟩) with ⟨v, vm₁, ⟨U', l2, c2, s2⟩, hW₁, X', ⟨g', mk, t, L, e1, e2, hq, h1, hL, h2, h3⟩, st⟩ | ⟨q, vm₁, ⟨U', l2, c2, s2⟩, hW₁, X', ⟨g', mk, t, L, E, ce, e1, e2, hq, hce, hcv, hcl, h1, hL, h2, h3⟩, st⟩
  · dsimp only [Pt.U, Pt.locs, Pt.cells, Pt.slots] at X' e1 e2 h1 h2 h3 st
    subst h1; subst h2; subst h3
    exact Or.inl ⟨v, (T.setVm vm₁).calling g' mk (Value.ref b :: As).toArray, t, U', L, hT, X', hL, e1, e2, hq, st⟩
  · dsimp only [Pt.U, Pt.locs, Pt.cells, Pt.slots] at X' e1 e2 h1 h2 h3 st hcl
    subst h1; subst h2; subst h3
    exact Or.inr ⟨q, (T.setVm vm₁).calling g' mk (Value.ref b :: As).toArray, t, U', L, E, ce, hT, X', hL, e1, e2, hq, hce, hcv, vx_cls hW₁ hcl, st⟩
theorem vx_runS (S : CallFix p m c cc nL s args Ts own) (hM : vx_Met l y ws rm Pc Qc XC mc ms free) (cw : CallB R s args own index y bytes maxL ret ws rm mc ms n ∧ (Cond.static y).before args s = true) (hp : PreS s H Pc As)
    (hg : g.method = m) (hn : As.length = n) (hsize : g.locals.size = nL) (hstack : g.stack = As.reverse ++ rest) (hW : 2 * g.monitorRoom + (rest.map fun v => v.category).sum ≤ 8) (hdg : decode cc g.pc = .ok (.invokestatic index, 3)) (hf : cells + mc ≤ R.cells ∧ slots + ms ≤ R.slots) :
    vx_Run p l e R s m args below meth c H locs cells slots mc ms g rest (Qc As.toArray) XC free := by
  have hK : vx_Back l R p e below s args y 3 8 (PreOf R mc ms Pc) (PostOf Qc mc ms free) (vx_Post XC mc ms free) := vx_callBack cw.1 hM hp.1
  obtain ⟨⟨-, -, -, -, -, -, hcode, hini, hy, hlen, hl⟩, hstt⟩ := cw
  obtain ⟨hx, hb, hml, ho, -⟩ := S
  intro T hT X
  rcases vx_callS X hx (bytes := bytes) (maxL := maxL) (ret := ret) ho hl hstt hini hcode hy hK hg (hsize.trans hml.symm) (argsL := As) (rest := rest) (fun sig h => hn.trans (hlen sig h)) hstack hW (by rw [hb]; exact hdg)
    (fun vm₁ hW₁ => ⟨hf.1, hf.2, hp.2 (T.setVm vm₁) hT hW₁⟩) with ⟨v, vm₁, ⟨U', l2, c2, s2⟩, hW₁, X', ⟨g', mk, t, L, e1, e2, hq, h1, hL, h2, h3⟩, st⟩ | ⟨q, vm₁, ⟨U', l2, c2, s2⟩, hW₁, X', ⟨g', mk, t, L, E, ce, e1, e2, hq, hce, hcv, hcl, h1, hL, h2, h3⟩, st⟩
  · dsimp only [Pt.U, Pt.locs, Pt.cells, Pt.slots] at X' e1 e2 h1 h2 h3 st
    subst h1; subst h2; subst h3
    exact Or.inl ⟨v, (T.setVm vm₁).calling g' mk As.toArray, t, U', L, hT, X', hL, e1, e2, hq, st⟩
  · dsimp only [Pt.U, Pt.locs, Pt.cells, Pt.slots] at X' e1 e2 h1 h2 h3 st hcl
    subst h1; subst h2; subst h3
    exact Or.inr ⟨q, (T.setVm vm₁).calling g' mk As.toArray, t, U', L, E, ce, hT, X', hL, e1, e2, hq, hce, hcv, vx_cls hW₁ hcl, st⟩
end Runs
section Rows
variable {p : Program} {l : Launch} {e : Env} {R : Room} {s : State} {m : MethodId} {args : Array Value} {below : List Frame} {meth : Method} {c : Code} {H : Heap} {locs : List Loc} {cells slots : Nat} {Q : State → Prop}
variable {mc ms : Nat} {free : Addr → Prop} {A0 A1 : Nat → Prop} {H0 : Heap} {a : Array Value} {pc : Nat} {ls : Array Slot} {st0 rest : List Value}
theorem vx_keep {st₀ t T' : State} {L : List Loc} (h0 : st₀.heap = H) (e1 : T'.heap = t.heap) (hS : va_S A0 H0 H locs) (hA : ∀ q, q < H.size → A1 q → A0 q) (hf : ∀ q, free q → A0 q) (hL : ∀ q ∈ L, free q.base) (hF : va_F A1 st₀ t) :
    H.size ≤ T'.heap.size ∧ (∀ q : Nat, q < H.size → ¬ A1 q → T'.heap[q]? = H[q]?) ∧ va_S A0 H0 T'.heap (locs ++ L) := by
  obtain ⟨hz, hk⟩ := hF
  rw [h0] at hz hk
  exact ⟨by rw [e1]; exact hz, fun q h1 h2 => by rw [e1]; exact hk q h1 h2,
    ⟨Nat.le_trans hS.1 (by rw [e1]; exact hz), fun q h1 h2 => by rw [e1, hk q (Nat.lt_of_lt_of_le h1 hS.1) (fun z => h2 (hA q (Nat.lt_of_lt_of_le h1 hS.1) z))]; exact hS.2.1 q h1 h2, fun q hq => by
      rcases List.mem_append.mp hq with h | h
      · exact hS.2.2 q h
      · exact hf _ (hL q h)⟩⟩
theorem vx_calli {S SX : Type} {post : Int32 → S → Prop} {px : SX → Prop} {B : S → State → Prop} {BX : String → SX → State → Prop} {AX : Nat → Prop} (hr : vx_Run p l e R s m args below meth c H locs cells slots mc ms (F0 m pc ls st0) rest (va_Qi post B A1 a) (vx_X px BX AX) free) (hS : va_S A0 H0 H locs) (hA : ∀ q, q < H.size → A1 q → A0 q) (hf : ∀ q, free q → A0 q) (hAX : ∀ q, q < H.size → AX q → A0 q)
    (kx : ∀ (E : String) (ce : Cell) (q9 : Addr) (u : SX) (t : State) (H1 : Heap) (locs1 : List Loc), t.heap = H1 → s.vm.Alike t.vm → px u → BX E u t → H.size ≤ H1.size → (∀ q : Nat, q < H.size → ¬ AX q → H1[q]? = H[q]?) → va_S A0 H0 H1 locs1 → H1[q9]? = some ce → ce.vm = .none → s.vm.findClass E = some ce.cls → vx_W p l e R s m args below meth c H1 locs1 (cells + mc) (slots + ms) Q (F0 m pc ls rest) q9)
    (kk : ∀ (r : Int32) (u : S) (t : State) (H1 : Heap) (locs1 : List Loc), t.heap = H1 → s.vm.Alike t.vm → post r u → B u t → H.size ≤ H1.size → (∀ q : Nat, q < H.size → ¬ A1 q → H1[q]? = H[q]?) → va_S A0 H0 H1 locs1 → W p l e R s m args below meth c H1 locs1 (cells + mc) (slots + ms) Q (F0 m (pc + 3) ls (.int r :: rest))) : W p l e R s m args below meth c H locs cells slots Q (F0 m pc ls st0) := by
  intro T hT X
  rcases hr T hT X with ⟨v, st₀, t, T', L, h0, X', hL, e1, e2, ⟨⟨r, u, hv, hp, hb⟩, hF⟩, st⟩ | ⟨q, st₀, t, T', L, E, ce, h0, X', hL, e1, e2, ⟨u, hp, hb, hF⟩, hce, hcv, hcl, st⟩
  · cases hv
    obtain ⟨k1, k2, k3⟩ := vx_keep h0 e1 hS hA hf hL hF
    obtain ⟨t2, a1, b1⟩ := kk r u t T'.heap (locs ++ L) e1.symm (by rw [← e2]; exact X'.warmed.alike) hp hb k1 k2 k3 T' rfl X'
    exact ⟨t2, st t2 a1, b1⟩
  · obtain ⟨k1, k2, k3⟩ := vx_keep h0 e1 hS hAX hf hL hF
    obtain ⟨t2, a1, b1⟩ := kx E ce q u t T'.heap (locs ++ L) e1.symm (by rw [← e2]; exact X'.warmed.alike) hp hb k1 k2 k3 (by rw [e1]; exact hce) hcv hcl T' rfl X'
    exact ⟨t2, st.trans a1, b1⟩
theorem vx_calll {S SX : Type} {post : Int64 → S → Prop} {px : SX → Prop} {B : S → State → Prop} {BX : String → SX → State → Prop} {AX : Nat → Prop} (hr : vx_Run p l e R s m args below meth c H locs cells slots mc ms (F0 m pc ls st0) rest (va_Ql post B A1 a) (vx_X px BX AX) free) (hS : va_S A0 H0 H locs) (hA : ∀ q, q < H.size → A1 q → A0 q) (hf : ∀ q, free q → A0 q) (hAX : ∀ q, q < H.size → AX q → A0 q)
    (kx : ∀ (E : String) (ce : Cell) (q9 : Addr) (u : SX) (t : State) (H1 : Heap) (locs1 : List Loc), t.heap = H1 → s.vm.Alike t.vm → px u → BX E u t → H.size ≤ H1.size → (∀ q : Nat, q < H.size → ¬ AX q → H1[q]? = H[q]?) → va_S A0 H0 H1 locs1 → H1[q9]? = some ce → ce.vm = .none → s.vm.findClass E = some ce.cls → vx_W p l e R s m args below meth c H1 locs1 (cells + mc) (slots + ms) Q (F0 m pc ls rest) q9)
    (kk : ∀ (r : Int64) (u : S) (t : State) (H1 : Heap) (locs1 : List Loc), t.heap = H1 → s.vm.Alike t.vm → post r u → B u t → H.size ≤ H1.size → (∀ q : Nat, q < H.size → ¬ A1 q → H1[q]? = H[q]?) → va_S A0 H0 H1 locs1 → W p l e R s m args below meth c H1 locs1 (cells + mc) (slots + ms) Q (F0 m (pc + 3) ls (.long r :: rest))) : W p l e R s m args below meth c H locs cells slots Q (F0 m pc ls st0) := by
  intro T hT X
  rcases hr T hT X with ⟨v, st₀, t, T', L, h0, X', hL, e1, e2, ⟨⟨r, u, hv, hp, hb⟩, hF⟩, st⟩ | ⟨q, st₀, t, T', L, E, ce, h0, X', hL, e1, e2, ⟨u, hp, hb, hF⟩, hce, hcv, hcl, st⟩
  · cases hv
    obtain ⟨k1, k2, k3⟩ := vx_keep h0 e1 hS hA hf hL hF
    obtain ⟨t2, a1, b1⟩ := kk r u t T'.heap (locs ++ L) e1.symm (by rw [← e2]; exact X'.warmed.alike) hp hb k1 k2 k3 T' rfl X'
    exact ⟨t2, st t2 a1, b1⟩
  · obtain ⟨k1, k2, k3⟩ := vx_keep h0 e1 hS hAX hf hL hF
    obtain ⟨t2, a1, b1⟩ := kx E ce q u t T'.heap (locs ++ L) e1.symm (by rw [← e2]; exact X'.warmed.alike) hp hb k1 k2 k3 (by rw [e1]; exact hce) hcv hcl T' rfl X'
    exact ⟨t2, st.trans a1, b1⟩
theorem vx_callf {S SX : Type} {post : UInt32 → S → Prop} {px : SX → Prop} {B : S → State → Prop} {BX : String → SX → State → Prop} {AX : Nat → Prop} (hr : vx_Run p l e R s m args below meth c H locs cells slots mc ms (F0 m pc ls st0) rest (va_Qf post B A1 a) (vx_X px BX AX) free) (hS : va_S A0 H0 H locs) (hA : ∀ q, q < H.size → A1 q → A0 q) (hf : ∀ q, free q → A0 q) (hAX : ∀ q, q < H.size → AX q → A0 q)
    (kx : ∀ (E : String) (ce : Cell) (q9 : Addr) (u : SX) (t : State) (H1 : Heap) (locs1 : List Loc), t.heap = H1 → s.vm.Alike t.vm → px u → BX E u t → H.size ≤ H1.size → (∀ q : Nat, q < H.size → ¬ AX q → H1[q]? = H[q]?) → va_S A0 H0 H1 locs1 → H1[q9]? = some ce → ce.vm = .none → s.vm.findClass E = some ce.cls → vx_W p l e R s m args below meth c H1 locs1 (cells + mc) (slots + ms) Q (F0 m pc ls rest) q9)
    (kk : ∀ (r : UInt32) (u : S) (t : State) (H1 : Heap) (locs1 : List Loc), t.heap = H1 → s.vm.Alike t.vm → post r u → B u t → H.size ≤ H1.size → (∀ q : Nat, q < H.size → ¬ A1 q → H1[q]? = H[q]?) → va_S A0 H0 H1 locs1 → W p l e R s m args below meth c H1 locs1 (cells + mc) (slots + ms) Q (F0 m (pc + 3) ls (.float r :: rest))) : W p l e R s m args below meth c H locs cells slots Q (F0 m pc ls st0) := by
  intro T hT X
  rcases hr T hT X with ⟨v, st₀, t, T', L, h0, X', hL, e1, e2, ⟨⟨r, u, hv, hp, hb⟩, hF⟩, st⟩ | ⟨q, st₀, t, T', L, E, ce, h0, X', hL, e1, e2, ⟨u, hp, hb, hF⟩, hce, hcv, hcl, st⟩
  · cases hv
    obtain ⟨k1, k2, k3⟩ := vx_keep h0 e1 hS hA hf hL hF
    obtain ⟨t2, a1, b1⟩ := kk r u t T'.heap (locs ++ L) e1.symm (by rw [← e2]; exact X'.warmed.alike) hp hb k1 k2 k3 T' rfl X'
    exact ⟨t2, st t2 a1, b1⟩
  · obtain ⟨k1, k2, k3⟩ := vx_keep h0 e1 hS hAX hf hL hF
    obtain ⟨t2, a1, b1⟩ := kx E ce q u t T'.heap (locs ++ L) e1.symm (by rw [← e2]; exact X'.warmed.alike) hp hb k1 k2 k3 (by rw [e1]; exact hce) hcv hcl T' rfl X'
    exact ⟨t2, st.trans a1, b1⟩
theorem vx_calld {S SX : Type} {post : UInt64 → S → Prop} {px : SX → Prop} {B : S → State → Prop} {BX : String → SX → State → Prop} {AX : Nat → Prop} (hr : vx_Run p l e R s m args below meth c H locs cells slots mc ms (F0 m pc ls st0) rest (va_Qd post B A1 a) (vx_X px BX AX) free) (hS : va_S A0 H0 H locs) (hA : ∀ q, q < H.size → A1 q → A0 q) (hf : ∀ q, free q → A0 q) (hAX : ∀ q, q < H.size → AX q → A0 q)
    (kx : ∀ (E : String) (ce : Cell) (q9 : Addr) (u : SX) (t : State) (H1 : Heap) (locs1 : List Loc), t.heap = H1 → s.vm.Alike t.vm → px u → BX E u t → H.size ≤ H1.size → (∀ q : Nat, q < H.size → ¬ AX q → H1[q]? = H[q]?) → va_S A0 H0 H1 locs1 → H1[q9]? = some ce → ce.vm = .none → s.vm.findClass E = some ce.cls → vx_W p l e R s m args below meth c H1 locs1 (cells + mc) (slots + ms) Q (F0 m pc ls rest) q9)
    (kk : ∀ (r : UInt64) (u : S) (t : State) (H1 : Heap) (locs1 : List Loc), t.heap = H1 → s.vm.Alike t.vm → post r u → B u t → H.size ≤ H1.size → (∀ q : Nat, q < H.size → ¬ A1 q → H1[q]? = H[q]?) → va_S A0 H0 H1 locs1 → W p l e R s m args below meth c H1 locs1 (cells + mc) (slots + ms) Q (F0 m (pc + 3) ls (.double r :: rest))) : W p l e R s m args below meth c H locs cells slots Q (F0 m pc ls st0) := by
  intro T hT X
  rcases hr T hT X with ⟨v, st₀, t, T', L, h0, X', hL, e1, e2, ⟨⟨r, u, hv, hp, hb⟩, hF⟩, st⟩ | ⟨q, st₀, t, T', L, E, ce, h0, X', hL, e1, e2, ⟨u, hp, hb, hF⟩, hce, hcv, hcl, st⟩
  · cases hv
    obtain ⟨k1, k2, k3⟩ := vx_keep h0 e1 hS hA hf hL hF
    obtain ⟨t2, a1, b1⟩ := kk r u t T'.heap (locs ++ L) e1.symm (by rw [← e2]; exact X'.warmed.alike) hp hb k1 k2 k3 T' rfl X'
    exact ⟨t2, st t2 a1, b1⟩
  · obtain ⟨k1, k2, k3⟩ := vx_keep h0 e1 hS hAX hf hL hF
    obtain ⟨t2, a1, b1⟩ := kx E ce q u t T'.heap (locs ++ L) e1.symm (by rw [← e2]; exact X'.warmed.alike) hp hb k1 k2 k3 (by rw [e1]; exact hce) hcv hcl T' rfl X'
    exact ⟨t2, st.trans a1, b1⟩
theorem vx_callv {S SX : Type} {post : S → Prop} {px : SX → Prop} {B : S → State → Prop} {BX : String → SX → State → Prop} {AX : Nat → Prop} (hr : vx_Run p l e R s m args below meth c H locs cells slots mc ms (F0 m pc ls st0) rest (va_Qv post B A1 a) (vx_X px BX AX) free) (hS : va_S A0 H0 H locs) (hA : ∀ q, q < H.size → A1 q → A0 q) (hf : ∀ q, free q → A0 q) (hAX : ∀ q, q < H.size → AX q → A0 q)
    (kx : ∀ (E : String) (ce : Cell) (q9 : Addr) (u : SX) (t : State) (H1 : Heap) (locs1 : List Loc), t.heap = H1 → s.vm.Alike t.vm → px u → BX E u t → H.size ≤ H1.size → (∀ q : Nat, q < H.size → ¬ AX q → H1[q]? = H[q]?) → va_S A0 H0 H1 locs1 → H1[q9]? = some ce → ce.vm = .none → s.vm.findClass E = some ce.cls → vx_W p l e R s m args below meth c H1 locs1 (cells + mc) (slots + ms) Q (F0 m pc ls rest) q9)
    (kk : ∀ (u : S) (t : State) (H1 : Heap) (locs1 : List Loc), t.heap = H1 → s.vm.Alike t.vm → post u → B u t → H.size ≤ H1.size → (∀ q : Nat, q < H.size → ¬ A1 q → H1[q]? = H[q]?) → va_S A0 H0 H1 locs1 → W p l e R s m args below meth c H1 locs1 (cells + mc) (slots + ms) Q (F0 m (pc + 3) ls (rest))) : W p l e R s m args below meth c H locs cells slots Q (F0 m pc ls st0) := by
  intro T hT X
  rcases hr T hT X with ⟨v, st₀, t, T', L, h0, X', hL, e1, e2, ⟨⟨u, hv, hp, hb⟩, hF⟩, st⟩ | ⟨q, st₀, t, T', L, E, ce, h0, X', hL, e1, e2, ⟨u, hp, hb, hF⟩, hce, hcv, hcl, st⟩
  · cases hv
    obtain ⟨k1, k2, k3⟩ := vx_keep h0 e1 hS hA hf hL hF
    obtain ⟨t2, a1, b1⟩ := kk u t T'.heap (locs ++ L) e1.symm (by rw [← e2]; exact X'.warmed.alike) hp hb k1 k2 k3 T' rfl X'
    exact ⟨t2, st t2 a1, b1⟩
  · obtain ⟨k1, k2, k3⟩ := vx_keep h0 e1 hS hAX hf hL hF
    obtain ⟨t2, a1, b1⟩ := kx E ce q u t T'.heap (locs ++ L) e1.symm (by rw [← e2]; exact X'.warmed.alike) hp hb k1 k2 k3 (by rw [e1]; exact hce) hcv hcl T' rfl X'
    exact ⟨t2, st.trans a1, b1⟩
/-- caught by the row x of this method's table; the rows ahead don't take it -/
theorem vx_catch {own name : String} {E : String} {ce : Cell} {q : Addr} (hown : s.vm.findClass own = some m.cls) (pre : List ExceptionTableEntry) (x : ExceptionTableEntry) (suf : List ExceptionTableEntry) (hsplit : c.exceptionTable.toList = pre ++ x :: suf)
    (hpass : ∀ z ∈ pre, covers z pc = false ∨ (z.catchType ≠ 0 ∧ ∃ nm : String, (Cond.classLink own z.catchType nm).before args s = true ∧ va_Nc E nm s)) (hx : covers x pc = true) (h0 : x.catchType ≠ 0)
    (hlink : (Cond.classLink own x.catchType name).before args s = true) (hcast : (Cond.castable E name).before args s = true) (hcell : H[q]? = some ce) (hv : ce.vm = .none) (hcl : s.vm.findClass E = some ce.cls)
    (kk : W p l e R s m args below meth c H locs cells slots Q (F0 m x.handlerPc ls [.ref q])) : vx_W p l e R s m args below meth c H locs cells slots Q (F0 m pc ls rest) q := by
  intro T hT X
  have hpl : e.platform.magicAccessors = ({} : Platform).magicAccessors := by rw [X.admits.platform]
  obtain ⟨c3, c4, hc3, hc4, hasg⟩ := Cond.castable_spec hcast
  cases Option.some.inj (hc3.symm.trans hcl)
  obtain ⟨c5, hc5, hcl5⟩ := Cond.classLink_spec hown hlink e.platform hpl
  cases Option.some.inj (hc4.symm.trans hc5)
  obtain ⟨vm', X', st⟩ := X.thenCaughtThrough q (g := F0 m pc ls rest) rfl (Steps.refl _) (by rw [hT]; exact hcell) (by rw [hv]; rfl) (by obtain ⟨k9, h9, -⟩ := Vm.findClass_spec hcl; exact ⟨k9, h9⟩) pre x suf hsplit
    (fun z hz => by
      rcases hpass z hz with h | ⟨hz0, nm, hl1, hn1⟩
      · exact Or.inl h
      · obtain ⟨c6, hc6, hcl6⟩ := Cond.classLink_spec hown hl1 e.platform hpl
        obtain ⟨a8, b8, h1, h2, h3⟩ := hn1
        cases Option.some.inj (h1.symm.trans hcl)
        cases Option.some.inj (h2.symm.trans hc6)
        exact Or.inr ⟨hz0, _, hcl6, h3⟩) hx (Or.inr ⟨h0, c4, hcl5, hasg⟩)
  obtain ⟨t, a1, b1⟩ := kk (T.setVm vm') hT X'
  exact ⟨t, st.trans a1, b1⟩
end Rows
section Ends
variable {p : Program} {l : Launch} {e : Env} {R : Room} {s : State} {m : MethodId} {args : Array Value} {below : List Frame} {meth : Method} {c : Code} {H : Heap} {locs : List Loc} {cells slots : Nat} {Q : State → Prop}
variable {mc ms : Nat} {free : Addr → Prop} {A0 A1 : Nat → Prop} {H0 : Heap} {a : Array Value} {ls : Array Slot} {st0 rest : List Value}
variable {Qc : Array Value → State → Outcome → State → Prop} {XC : String → State → State → Prop}
/-- what a body that may throw owes at its end -/
def vx_MQ (below : List Frame) (Qc : Array Value → State → Outcome → State → Prop) (XC : String → State → State → Prop) (a : Array Value) (s : State) (mc ms : Nat) (free : Addr → Prop) : State → Prop := fun t =>
  ∃ o, t.status = .running ∧ Ended t below o ∧ vx_Q Qc XC mc ms free a s o t
theorem vx_ret {g : JFrame} {mc ms : Nat} (k : W p l e R s m args below meth c H locs cells slots (MQ below Qc args s mc ms free) g) : W p l e R s m args below meth c H locs cells slots (vx_MQ below Qc XC args s mc ms free) g := by
  intro T hT X
  obtain ⟨t, a1, o, b1, b2, b3, b4⟩ := k T hT X
  exact ⟨t, a1, o, b1, b2, Or.inl ⟨b3, b4⟩⟩
/-- not caught here: it goes on to the caller -/
theorem vx_widen {g : JFrame} {q : Addr} {k n : Nat} (h1 : cells ≤ k) (h2 : slots ≤ n) (kk : vx_W p l e R s m args below meth c H locs k n Q g q) : vx_W p l e R s m args below meth c H locs cells slots Q g q := fun T hT X => kk T hT (stand_widen X h1 h2)
theorem vx_out {pc : Nat} {E : String} {ce : Cell} {q : Addr} {mc ms : Nat} (hout : ∀ x ∈ c.exceptionTable.toList, covers x pc = false) (hlocks : meth.locks = false) (hcell : H[q]? = some ce) (hv : ce.vm = .none) (hcl : s.vm.findClass E = some ce.cls)
    (hx : ∀ t : State, t.heap = H → s.vm.Alike t.vm → XC E s t) (hf : ∀ z ∈ locs, free z.base) (hc : cells ≤ mc) (hs : slots ≤ ms) :
    vx_W p l e R s m args below meth c H locs cells slots (vx_MQ below Qc XC args s mc ms free) (F0 m pc ls rest) q := by
  intro T hT X
  obtain ⟨st1, hrun, hend, hW, hsm⟩ := X.leaveThrown q (g := F0 m pc ls rest) rfl rfl rfl hout hlocks
  have hcell9 : (T.setFrames (.throwing q :: below)).heap[q]? = some ce := by
    show T.heap[q]? = some ce
    rw [hT]; exact hcell
  exact ⟨_, st1, .threw q, hrun, hend, Or.inr ⟨q, rfl, E, ce, locs, hx _ hT hW.alike, hcell9, hv, hcl, hW, hsm.mono hc hs, hf⟩⟩
theorem vx_frame {U : State} {k n : Nat} (h : s.sameButNew ({ U with vm := s.vm } : State) locs k n) : s.heap.size ≤ U.heap.size ∧ ∀ q : Nat, q < s.heap.size → (∀ z ∈ locs, z.base ≠ q) → U.heap[q]? = s.heap[q]? := by
  obtain ⟨-, h2, -, -, -, h6⟩ := h
  refine ⟨h2, fun q hq hz => ?_⟩
  obtain ⟨c9, e1, e2, e3, e4⟩ := h6 q _ (Array.getElem?_eq_getElem hq)
  have hs : c9.slots = (s.heap[q]).slots := Array.ext_getElem? fun i => e4 i fun hm => hz _ hm rfl
  have h9 : c9 = s.heap[q] := by
    rw [hs] at e2
    exact e2
  have e5 : U.heap[q]? = some c9 := e1
  rw [e5, h9, Array.getElem?_eq_getElem hq]
/-- the words of a throw but the four that speak of the heap -/
def vx_no (w : Cond) : Bool := decide (w ≠ .isRef (.static Bundle.tN "UNASSIGNED_STACK" Bundle.steD)) && decide (w ≠ .isRef (.static Bundle.tN "SUPPRESSED_SENTINEL" Bundle.listD)) && decide (w ≠ .laysStatic Bundle.tN "UNASSIGNED_STACK" Bundle.steD) && decide (w ≠ .laysStatic Bundle.tN "SUPPRESSED_SENTINEL" Bundle.listD)
def vx_at0 (own : String) (ic : Nat) (X : String) (names : List String) : List Cond := (Bundle.ownAtoms0 own ic X names).filter vx_no
def vx_atS (own : String) (ic : Nat) (X : String) (names : List String) : List Cond := (Bundle.ownAtoms own ic X names).filter vx_no
/-- a word that the tables alone decide, or a good one -/
def vx_ot (w : Cond) : Bool := w.onTables || goodWord w
theorem vx_ot_at {args a' : Array Value} {s U : State} {w : Cond} (hW : s.WarmedH U.vm) (hvm : s.vm = U.vm) (hg : vx_ot w = true) (h : w.before args s = true) : w.before a' U = true := by
  simp only [vx_ot, Bool.or_eq_true] at hg
  rcases hg with hg | hg
  · exact va_tabs hg hvm h
  · exact word_at hW (good_of_word hg) h
/-- a list's words: the good ones out of the method's own list, the others by premises of their own -/
theorem vx_hat {args : Array Value} {s : State} {L B : List Cond} (h1 : ∀ w ∈ L.filter goodWord, w.before args s = true) (h2 : ∀ w ∈ L.filter (fun w => !goodWord w), w ∈ B) (h3 : ∀ w ∈ B, w.before args s = true) : ∀ w ∈ L, w.before args s = true := by
  intro w hw
  by_cases g : goodWord w = true
  · exact h1 w (List.mem_filter.mpr ⟨hw, g⟩)
  · refine h3 w (h2 w (List.mem_filter.mpr ⟨hw, ?_⟩))
    show (!goodWord w) = true
    cases hgw : goodWord w
    · rfl
    · exact absurd hgw g
theorem vx_c {args : Array Value} {s : State} {w : Cond} {B : List Cond} (h : w.before args s = true) (t : ∀ w ∈ B, w.before args s = true) : ∀ w' ∈ w :: B, w'.before args s = true := fun w' h' => (List.mem_cons.mp h').elim (fun e => by rw [e]; exact h) (t w')
theorem vx_n {args : Array Value} {s : State} : ∀ w ∈ ([] : List Cond), w.before args s = true := fun _ h => nomatch h
theorem vx_own {args : Array Value} {s : State} {L : List Cond} (h1 : ∀ w ∈ L.filter vx_no, w.before args s = true)
    (hU : (Cond.isRef (.static Bundle.tN "UNASSIGNED_STACK" Bundle.steD)).before args s = true) (hN : (Cond.isRef (.static Bundle.tN "SUPPRESSED_SENTINEL" Bundle.listD)).before args s = true)
    (lU : (Cond.laysStatic Bundle.tN "UNASSIGNED_STACK" Bundle.steD).before args s = true) (lN : (Cond.laysStatic Bundle.tN "SUPPRESSED_SENTINEL" Bundle.listD).before args s = true) : ∀ w ∈ L, w.before args s = true := by
  intro w hw
  by_cases e1 : w = .isRef (.static Bundle.tN "UNASSIGNED_STACK" Bundle.steD)
  · rw [e1]; exact hU
  · by_cases e2 : w = .isRef (.static Bundle.tN "SUPPRESSED_SENTINEL" Bundle.listD)
    · rw [e2]; exact hN
    · by_cases e3 : w = .laysStatic Bundle.tN "UNASSIGNED_STACK" Bundle.steD
      · rw [e3]; exact lU
      · by_cases e4 : w = .laysStatic Bundle.tN "SUPPRESSED_SENTINEL" Bundle.listD
        · rw [e4]; exact lN
        · exact h1 w (List.mem_filter.mpr ⟨hw, by unfold vx_no; rw [decide_eq_true e1, decide_eq_true e2, decide_eq_true e3, decide_eq_true e4]; rfl⟩)
/-- where a static field lies, its class's statics cell in H -/
def vx_L (C n d : String) (A : Nat → Prop) (U : State) (H : Heap) : Prop := ∃ (c : ClassId) (k : Class) (i : Nat) (f : Field) (a : Nat) (cell : Cell), U.vm.findClass C = some c ∧ U.fieldFound? C n d = some (c, k, i, f) ∧ f.isStatic = true ∧ k.statics = some a ∧ H[a]? = some cell ∧ cell.vm.isStatics = true ∧ cell.cls = c ∧ f.slot < cell.slots.size ∧ k.staticTypes[f.slot]? = some f.type ∧ ¬ A a
theorem vx_L.moved {C n d : String} {A : Nat → Prop} {u U : State} {H : Heap} (hvm : u.vm.Alike U.vm) (h : vx_L C n d A u H) : vx_L C n d A U H := by
  obtain ⟨c, k, i, f, a, cell, h1, h2, h3, h4, h5, h6, h7, h8, h9, h10⟩ := h
  obtain ⟨k', hi', he⟩ := State.fieldFound?_setVm hvm h2
  exact ⟨c, k', i, f, a, cell, by rw [hvm.findClass]; exact h1, hi', h3, by rw [he]; exact h4, h5, h6, h7, h8, by rw [he]; exact h9, h10⟩
theorem vx_L.kept {C n d : String} {A : Nat → Prop} {U : State} {H H1 : Heap} (h : vx_L C n d A U H) (hq : ∀ a : Nat, a < H.size → ¬ A a → H1[a]? = H[a]?) : vx_L C n d A U H1 := by
  obtain ⟨c, k, i, f, a, cell, h1, h2, h3, h4, h5, h6, h7, h8, h9, h10⟩ := h
  exact ⟨c, k, i, f, a, cell, h1, h2, h3, h4, by rw [hq a (Array.getElem?_eq_some_iff.mp h5).1 h10]; exact h5, h6, h7, h8, h9, h10⟩
theorem vx_L.narrow {C n d : String} {A B : Nat → Prop} {U : State} {H : Heap} (h : vx_L C n d A U H) (hAB : ∀ q, B q → A q) : vx_L C n d B U H := by
  obtain ⟨c, k, i, f, a, cell, h1, h2, h3, h4, h5, h6, h7, h8, h9, h10⟩ := h
  exact ⟨c, k, i, f, a, cell, h1, h2, h3, h4, h5, h6, h7, h8, h9, fun z => h10 (hAB _ z)⟩
theorem vx_L.word {C n d : String} {A : Nat → Prop} {s : State} {args : Array Value} (h : vx_L C n d A s s.heap) : (Cond.laysStatic C n d).before args s = true := by
  obtain ⟨c, k, i, f, a, cell, h1, h2, h3, h4, h5, h6, h7, h8, h9, -⟩ := h
  show (Cond.laysStatic C n d).holds args s none s [] = true
  exact Cond.laysStatic_of h1 h2 h3 h4 h5 h6 h7 h8 h9
/-- .. and what it holds: null or some reference -/
def vx_Zq (C n d : String) (A : Nat → Prop) (U : State) (H : Heap) : Prop := va_Zq C n d A U H ∧ vx_L C n d A U H
theorem vx_Zq.moved {C n d : String} {A : Nat → Prop} {u U : State} {H : Heap} (hvm : u.vm.Alike U.vm) (h : vx_Zq C n d A u H) : vx_Zq C n d A U H := ⟨va_Zq.moved hvm h.1, vx_L.moved hvm h.2⟩
theorem vx_Zq.kept {C n d : String} {A : Nat → Prop} {U : State} {H H1 : Heap} (h : vx_Zq C n d A U H) (hq : ∀ a : Nat, a < H.size → ¬ A a → H1[a]? = H[a]?) : vx_Zq C n d A U H1 := ⟨va_Zq.kept h.1 hq, vx_L.kept h.2 hq⟩
theorem vx_Zq.narrow {C n d : String} {A B : Nat → Prop} {U : State} {H : Heap} (h : vx_Zq C n d A U H) (hAB : ∀ q, B q → A q) : vx_Zq C n d B U H := ⟨va_Zq.narrow h.1 hAB, vx_L.narrow h.2 hAB⟩
theorem vx_Zqof {args : Array Value} {s : State} {C n d : String} {A : Nat → Prop} (hl : (Cond.laysStatic C n d).before args s = true) (hini : (Cond.initialized C).before args s = true) (h : (Cond.isRef (.static C n d)).before args s = true) (hA : ∀ a : Nat, a < s.heap.size → ¬ A a) : vx_Zq C n d A s s.heap := by
  refine ⟨va_Zqof hl hini h hA, ?_⟩
  obtain ⟨c, k, i, f, a, cell, h1, h2, h3, h4, h5, h6, h7, h8, h9⟩ := Cond.laysStatic_spec hl
  exact ⟨c, k, i, f, a, cell, h1, h2, h3, h4, h5, h6, h7, h8, h9, hA a (Array.getElem?_eq_some_iff.mp h5).1⟩
theorem vx_isRef {C n d : String} {v : Value} {A : Nat → Prop} {s : State} {args : Array Value} (h : va_Z C n d v A s s.heap) (hv : v.isRef = true) : (Cond.isRef (.static C n d)).before args s = true := by
  obtain ⟨cf, kf, fi, f, a, cell, h1, h2, h3, h4, h5, h6, h7, -⟩ := h
  have he : (Term.static C n d).eval args s none [] s = some v := by
    simp [Term.eval, State.fieldNamed?, h1, h2, h4, h5, h6, h7]
  simp only [Cond.before, Cond.holds, Cond.value, he]
  cases v <;> simp_all [Value.isRef]
theorem vx_isRefq {C n d : String} {A : Nat → Prop} {s : State} {args : Array Value} (h : va_Zq C n d A s s.heap) : (Cond.isRef (.static C n d)).before args s = true := by
  rcases h with h | ⟨t, h⟩
  · exact vx_isRef h rfl
  · exact vx_isRef h rfl
/-- the same frame, seen from here: as if the method were called anew in this heap -/
theorem vx_rebase {T : State} (X : Stand p l e R s m args below meth c T locs cells slots) {R' : Room} (hf : R'.frames ≤ R.frames) (hl : R'.locals ≤ R.locals) (hc : cells + R'.cells ≤ R.cells) (hs : slots + R'.slots ≤ R.slots) :
    Stand p l e R' ((T.setVm s.vm).setFrames (.invoking m args :: below)) m args below meth c T [] 0 0 := by
  have htop : (T.setVm s.vm).topJava?.isSome := X.here.top
  have hF : ((T.setVm s.vm).setFrames (.invoking m args :: below)).frames = .invoking m args :: below := State.frames_setFrames _ (State.cur_lt_of_top htop)
  obtain ⟨g₀, hg0⟩ := Option.isSome_iff_exists.mp htop
  obtain ⟨r, hr⟩ := State.topJava?_eq_some.mp hg0
  have hl9 : e.platform.stackLimits (T.setVm s.vm).me = e.platform.stackLimits s.me := X.limits
  have hb9 : (T.setVm s.vm).me.stackBytes = s.me.stackBytes := X.bytes
  refine ⟨X.admits, X.cas, X.clock, hF, ?_, X.hears, X.method, X.code, X.here, X.tail, X.warmed, ?_, ?_, ?_⟩
  · have h := X.room
    have hU : ((T.setVm s.vm).setFrames (.invoking m args :: below)).localsInUse = s.localsInUse := by
      rw [State.localsInUse_invoking hF (meth := meth) (c := c) X.method X.code, State.localsInUse_invoking X.frames X.method X.code]
    simp only [State.hasRoom, Bool.and_eq_true, decide_eq_true_eq] at h ⊢
    obtain ⟨⟨⟨⟨h1, h2, h3, h4, h5, h6⟩, h7⟩, h8⟩, h9⟩ := h
    rw [X.frames, List.length_cons] at h2 h3
    have q1 := X.heapSize
    have q2 := X.used
    simp only [hF, hU, List.length_cons, State.stackLimits_setFrames, State.stackBytes_setFrames, hl9, hb9]
    refine ⟨⟨⟨⟨by omega, by omega, by omega, by omega, by omega, h6⟩, ?_⟩, ?_⟩, X.book⟩
    · show T.heap.size + R'.cells ≤ e.platform.maxCells
      omega
    · show T.slotsUsed + R'.slots ≤ e.platform.maxSlots
      omega
  · rw [State.stackLimits_setFrames]; rfl
  · rw [State.stackBytes_setFrames]; rfl
  · refine ⟨?_, Nat.le_refl _, Nat.le_refl _, ?_, ?_, fun a c9 h9 => ⟨c9, h9, rfl, rfl, fun _ _ => rfl⟩⟩
    · obtain ⟨t, ht, -⟩ := State.frames_cons hr
      show T.setVm s.vm = { ((T.setVm s.vm).setFrames (.invoking m args :: below)).setFrames (T.setVm s.vm).frames with heap := T.heap, slotsUsed := T.slotsUsed }
      rw [State.setFrames_setFrames, State.setFrames_self ht]
      rfl
    · show T.slotsUsed = T.slotsUsed + ((T.heap.toList.drop T.heap.size).map (·.slots.size)).sum
      rw [List.drop_eq_nil_of_le (Nat.le_of_eq Array.length_toList)]
      rfl
    · show ((T.heap.toList.drop T.heap.size).map (·.slots.size)).sum ≤ 0
      rw [List.drop_eq_nil_of_le (Nat.le_of_eq Array.length_toList)]
      exact Nat.le_refl _
/-- 'throw new E()': new; dup; invokespecial; athrow -/
theorem vx_throw0 {cc : ByteArray} {pc : Nat} (hexec : p.tables.exec = Jvm.exec) (hb : c.code = cc) (hl : l.stackTraces = false) {own cls : String} {names : List String} {ik ic mc ms : Nat} {A : Nat → Prop}
    (hown : s.vm.findClass own = some m.cls) (hcls : Bundle.fit cls = true) (hnames : ∀ n ∈ names, Bundle.fit n = true)
    (hk : (Cond.classLink own ik cls).before args s = true) (hini : (Cond.initialized cls).before args s = true) (hat : ∀ w ∈ vx_at0 own ic cls names, w.before args s = true)
    (hgood : ∀ w ∈ Cond.classLink own ik cls :: Cond.initialized cls :: vx_at0 own ic cls names, vx_ot w = true)
    (hU : vx_Zq Bundle.tN "UNASSIGNED_STACK" Bundle.steD A s s.heap) (hN : vx_Zq Bundle.tN "SUPPRESSED_SENTINEL" Bundle.listD A s s.heap) (hS : va_S A s.heap H locs) (hsize : ls.size = c.maxLocals)
    (d0 : decode cc pc = .ok (.new ik, 3)) (d3 : decode cc (pc + 3) = .ok (.dup, 1)) (d4 : decode cc (pc + 4) = .ok (.invokespecial ic, 3)) (d7 : decode cc (pc + 7) = .ok (.athrow, 1))
    (hout : ∀ x ∈ c.exceptionTable.toList, covers x (pc + 7) = false)
    (hRframes : names.length + 3 < R.frames) (hRlocals : (rest.map fun v => v.category).sum + (13 * (names.length + 1) + 42) ≤ R.locals) (hRcells : cells + 1 ≤ R.cells) (hRslots : slots + 6 ≤ R.slots) (hlocks : meth.locks = false)
    (hx : ∀ t : State, s.vm.Alike t.vm → H.size ≤ t.heap.size → (∀ q : Nat, q < H.size → t.heap[q]? = H[q]?) → XC cls s t)
    (hf : ∀ z ∈ locs, free z.base) (hc : cells + 1 ≤ mc) (hs : slots + 6 ≤ ms) :
    W p l e R s m args below meth c H locs cells slots (vx_MQ below Qc XC args s mc ms free) (F0 m pc ls rest) := by
  intro T hT X
  have htr : e.platform.stackTraces = false := (show e.platform.stackTraces = l.stackTraces by rw [X.admits.platform]).trans hl
  have Y := vx_rebase X (R' := { frames := R.frames, locals := R.locals, cells := 1, slots := 6 }) (Nat.le_refl _) (Nat.le_refl _) hRcells hRslots
  obtain ⟨s', hA⟩ : ∃ z, z = (T.setVm s.vm).setFrames (.invoking m args :: below) := ⟨_, rfl⟩
  rw [← hA] at Y
  have hvm : s'.vm = s.vm := by rw [hA]; rfl
  have hhp : s'.heap = H := by rw [hA]; exact hT
  have hW0 : s.WarmedH s'.vm := by rw [hvm]; exact State.WarmedH.refl s
  have hat' : ∀ w ∈ vx_at0 own ic cls names, w.before args s' = true := fun w hw => vx_ot_at hW0 hvm.symm (hgood w (List.mem_cons_of_mem _ (List.mem_cons_of_mem _ hw))) (hat w hw)
  have hk' : (Cond.classLink own ik cls).before args s' = true := vx_ot_at hW0 hvm.symm (hgood _ List.mem_cons_self) hk
  have hini' : (Cond.initialized cls).before args s' = true := vx_ot_at hW0 hvm.symm (hgood _ (List.mem_cons_of_mem _ List.mem_cons_self)) hini
  have hU' : vx_Zq Bundle.tN "UNASSIGNED_STACK" Bundle.steD A s' s'.heap := by rw [hhp]; exact vx_Zq.moved hW0.alike (hU.kept hS.2.1)
  have hN' : vx_Zq Bundle.tN "SUPPRESSED_SENTINEL" Bundle.listD A s' s'.heap := by rw [hhp]; exact vx_Zq.moved hW0.alike (hN.kept hS.2.1)
  have h : ∀ w ∈ Bundle.ownAtoms0 own ic cls names, w.before args s' = true := vx_own hat' (vx_isRefq hU'.1) (vx_isRefq hN'.1) hU'.2.word hN'.2.word
  have hown' : s'.vm.findClass own = some m.cls := by rw [hvm]; exact hown
  have hins : (Cond.instantiable cls 6).before args s' = true := h _ (by simp [Bundle.ownAtoms0])
  obtain ⟨vm₁, cX, kX, hfX, hkX, -, -, X₁, st1⟩ := Y.newCold hexec (own := own) (C := cls) (index := ik) (n := 6) hown' hk' hins hini'
    (g := F0 m pc ls rest) rfl (by rw [hb]; exact d0) (Nat.le_refl _) (Nat.le_refl _)
  generalize hT1 : (T.setVm vm₁).pushCell { cls := cX, slots := kX.instanceTypes.map defaultValue, vm := .none } = T1 at X₁ st1
  have hcat : (Value.ref T.heap.size).category = 1 := rfl
  have hcellA : T1.heap[T.heap.size]? = some (freshCell cX kX) := by rw [← hT1]; exact State.heap_pushCell_size _ _
  have d3' : decode c.code (pc + 3) = .ok (.dup, 1) := by rw [hb]; exact d3
  obtain ⟨U, hsteps, hrun, hend, hW, hsame, ce, hce, hO⟩ := X₁.ctorThrow0 hexec htr (own := own) (cls := cls) (names := names) (ic := ic) hown' hcls hnames h (fun x hx => nomatch hx) hfX hkX hcellA (by rw [hhp, hT]; exact Nat.le_refl _)
    (g := { method := m, pc := pc + 4, locals := ls, stack := .ref T.heap.size :: .ref T.heap.size :: rest, locked := none }) rfl hsize rfl rfl (rest := rest) rfl
    (by rw [hb]; exact d4) (by rw [hb]; exact d7) hout hRframes (by simp only [List.map_cons, List.sum_cons, hcat]; omega) hlocks
  obtain ⟨f1, f2⟩ := vx_frame hsame
  rw [hhp] at f1 f2
  have hWs : s.WarmedH U.vm := State.WarmedH.trans hW0 hW
  have hcl : s.vm.findClass cls = some ce.cls := by
    have h9 := hO.cls
    rw [hvm] at h9
    exact h9
  have hall : s.sameButNew ({ U with vm := s.vm } : State) locs mc ms := by
    subst hA
    obtain ⟨e1, e2⟩ := hsame
    rw [State.setFrames_setFrames] at e1
    have h2 : (T.setVm s.vm).sameButNew ({ U with vm := s.vm } : State) [] (0 + 1) (0 + 6) := ⟨e1, e2⟩
    have h3 := X.same.trans h2
    rw [List.append_nil] at h3
    exact h3.mono hc hs
  refine ⟨U, ?_, .threw T.heap.size, hrun, hend, Or.inr ⟨T.heap.size, rfl, cls, ce, locs, hx U hWs.alike f1 (fun q hq => f2 q hq (fun z hz => nomatch hz)), hce, hO.vm, hcl, hWs, hall, hf⟩⟩
  refine st1 _ ?_
  show Steps p.tables e below (T1.setTop { method := m, pc := pc + 3, locals := ls, stack := .ref T.heap.size :: rest, locked := none }) _
  jvm_step X₁.here [X₁.here.top, hexec, d3', Value.category]
  exact hsteps
/-- 'throw new E("text")': new; dup; ldc; invokespecial; athrow -/
theorem vx_throwS {cc : ByteArray} {pc : Nat} (hexec : p.tables.exec = Jvm.exec) (hb : c.code = cc) (hl : l.stackTraces = false) {own cls text : String} {names : List String} {ik is ic mc ms sa : Nat} {A : Nat → Prop}
    (hown : s.vm.findClass own = some m.cls) (hcls : Bundle.fit cls = true) (hnames : ∀ n ∈ names, Bundle.fit n = true)
    (hk : (Cond.classLink own ik cls).before args s = true) (hini : (Cond.initialized cls).before args s = true) (hstr : vk_R own is text sa s) (hat : ∀ w ∈ vx_atS own ic cls names, w.before args s = true)
    (hgood : ∀ w ∈ Cond.classLink own ik cls :: Cond.initialized cls :: vx_atS own ic cls names, vx_ot w = true)
    (hU : vx_Zq Bundle.tN "UNASSIGNED_STACK" Bundle.steD A s s.heap) (hN : vx_Zq Bundle.tN "SUPPRESSED_SENTINEL" Bundle.listD A s s.heap) (hS : va_S A s.heap H locs) (hsize : ls.size = c.maxLocals)
    (d0 : decode cc pc = .ok (.new ik, 3)) (d3 : decode cc (pc + 3) = .ok (.dup, 1)) (d4 : decode cc (pc + 4) = .ok (.ldc is, 2)) (d6 : decode cc (pc + 6) = .ok (.invokespecial ic, 3)) (d9 : decode cc (pc + 9) = .ok (.athrow, 1))
    (hout : ∀ x ∈ c.exceptionTable.toList, covers x (pc + 9) = false)
    (hRframes : names.length + 3 < R.frames) (hRlocals : (rest.map fun v => v.category).sum + (13 * (names.length + 1) + 43) ≤ R.locals) (hRcells : cells + 1 ≤ R.cells) (hRslots : slots + 6 ≤ R.slots) (hlocks : meth.locks = false)
    (hx : ∀ t : State, s.vm.Alike t.vm → H.size ≤ t.heap.size → (∀ q : Nat, q < H.size → t.heap[q]? = H[q]?) → XC cls s t)
    (hf : ∀ z ∈ locs, free z.base) (hc : cells + 1 ≤ mc) (hs : slots + 6 ≤ ms) :
    W p l e R s m args below meth c H locs cells slots (vx_MQ below Qc XC args s mc ms free) (F0 m pc ls rest) := by
  intro T hT X
  have htr : e.platform.stackTraces = false := (show e.platform.stackTraces = l.stackTraces by rw [X.admits.platform]).trans hl
  have Y := vx_rebase X (R' := { frames := R.frames, locals := R.locals, cells := 1, slots := 6 }) (Nat.le_refl _) (Nat.le_refl _) hRcells hRslots
  obtain ⟨s', hA⟩ : ∃ z, z = (T.setVm s.vm).setFrames (.invoking m args :: below) := ⟨_, rfl⟩
  rw [← hA] at Y
  have hvm : s'.vm = s.vm := by rw [hA]; rfl
  have hhp : s'.heap = H := by rw [hA]; exact hT
  have hW0 : s.WarmedH s'.vm := by rw [hvm]; exact State.WarmedH.refl s
  have hat' : ∀ w ∈ vx_atS own ic cls names, w.before args s' = true := fun w hw => vx_ot_at hW0 hvm.symm (hgood w (List.mem_cons_of_mem _ (List.mem_cons_of_mem _ hw))) (hat w hw)
  have hk' : (Cond.classLink own ik cls).before args s' = true := vx_ot_at hW0 hvm.symm (hgood _ List.mem_cons_self) hk
  have hini' : (Cond.initialized cls).before args s' = true := vx_ot_at hW0 hvm.symm (hgood _ (List.mem_cons_of_mem _ List.mem_cons_self)) hini
  have hU' : vx_Zq Bundle.tN "UNASSIGNED_STACK" Bundle.steD A s' s'.heap := by rw [hhp]; exact vx_Zq.moved hW0.alike (hU.kept hS.2.1)
  have hN' : vx_Zq Bundle.tN "SUPPRESSED_SENTINEL" Bundle.listD A s' s'.heap := by rw [hhp]; exact vx_Zq.moved hW0.alike (hN.kept hS.2.1)
  have h : ∀ w ∈ Bundle.ownAtoms own ic cls names, w.before args s' = true := vx_own hat' (vx_isRefq hU'.1) (vx_isRefq hN'.1) hU'.2.word hN'.2.word
  have hown' : s'.vm.findClass own = some m.cls := by rw [hvm]; exact hown
  have hins : (Cond.instantiable cls 6).before args s' = true := h _ (by simp [Bundle.ownAtoms])
  obtain ⟨vm₁, cX, kX, hfX, hkX, -, -, X₁, st1⟩ := Y.newCold hexec (own := own) (C := cls) (index := ik) (n := 6) hown' hk' hins hini'
    (g := F0 m pc ls rest) rfl (by rw [hb]; exact d0) (Nat.le_refl _) (Nat.le_refl _)
  generalize hT1 : (T.setVm vm₁).pushCell { cls := cX, slots := kX.instanceTypes.map defaultValue, vm := .none } = T1 at X₁ st1
  have hcat : (Value.ref T.heap.size).category = 1 := rfl
  have hcellA : T1.heap[T.heap.size]? = some (freshCell cX kX) := by rw [← hT1]; exact State.heap_pushCell_size _ _
  have d3' : decode c.code (pc + 3) = .ok (.dup, 1) := by rw [hb]; exact d3
  have d4' : decode c.code (pc + 4) = .ok (.ldc is, 2) := by rw [hb]; exact d4
  have hstr' : vk_R own is text sa s' := vk_R.warm hW0 hstr
  obtain ⟨U, hsteps, hrun, hend, hW, hsame, ce, hce, hO⟩ := X₁.ctorThrowS hexec htr (own := own) (cls := cls) (names := names) (ic := ic) hown' hcls hnames h (fun x hx => nomatch hx) hfX hkX hcellA (by rw [hhp, hT]; exact Nat.le_refl _) (msg := .ref sa) rfl
    (g := { method := m, pc := pc + 6, locals := ls, stack := .ref sa :: .ref T.heap.size :: .ref T.heap.size :: rest, locked := none }) rfl hsize rfl rfl (rest := rest) rfl
    (by rw [hb]; exact d6) (by rw [hb]; exact d9) hout hRframes (by simp only [List.map_cons, List.sum_cons, hcat]; omega) hlocks
  obtain ⟨f1, f2⟩ := vx_frame hsame
  rw [hhp] at f1 f2
  have hWs : s.WarmedH U.vm := State.WarmedH.trans hW0 hW
  have hcl : s.vm.findClass cls = some ce.cls := by
    have h9 := hO.cls
    rw [hvm] at h9
    exact h9
  have hall : s.sameButNew ({ U with vm := s.vm } : State) locs mc ms := by
    subst hA
    obtain ⟨e1, e2⟩ := hsame
    rw [State.setFrames_setFrames] at e1
    have h2 : (T.setVm s.vm).sameButNew ({ U with vm := s.vm } : State) [] (0 + 1) (0 + 6) := ⟨e1, e2⟩
    have h3 := X.same.trans h2
    rw [List.append_nil] at h3
    exact h3.mono hc hs
  refine ⟨U, ?_, .threw T.heap.size, hrun, hend, Or.inr ⟨T.heap.size, rfl, cls, ce, locs, hx U hWs.alike f1 (fun q hq => f2 q hq (fun z hz => nomatch hz)), hce, hO.vm, hcl, hWs, hall, hf⟩⟩
  refine st1 _ ?_
  show Steps p.tables e below (T1.setTop { method := m, pc := pc + 3, locals := ls, stack := .ref T.heap.size :: rest, locked := none }) _
  jvm_step X₁.here [X₁.here.top, hexec, d3', Value.category]
  exact X₁.ldcString hexec (own := own) (text := text) (index := is) (a := sa) hown' hstr'.1 hstr'.2
    (g := { method := m, pc := pc + 4, locals := ls, stack := .ref T.heap.size :: .ref T.heap.size :: rest, locked := none }) rfl d4' _ hsteps
/-- 'throw new E("text")', the text by a wide index -/
theorem vx_throwSW {cc : ByteArray} {pc : Nat} (hexec : p.tables.exec = Jvm.exec) (hb : c.code = cc) (hl : l.stackTraces = false) {own cls text : String} {names : List String} {ik is ic mc ms sa : Nat} {A : Nat → Prop}
    (hown : s.vm.findClass own = some m.cls) (hcls : Bundle.fit cls = true) (hnames : ∀ n ∈ names, Bundle.fit n = true)
    (hk : (Cond.classLink own ik cls).before args s = true) (hini : (Cond.initialized cls).before args s = true) (hstr : vk_R own is text sa s) (hat : ∀ w ∈ vx_atS own ic cls names, w.before args s = true)
    (hgood : ∀ w ∈ Cond.classLink own ik cls :: Cond.initialized cls :: vx_atS own ic cls names, vx_ot w = true)
    (hU : vx_Zq Bundle.tN "UNASSIGNED_STACK" Bundle.steD A s s.heap) (hN : vx_Zq Bundle.tN "SUPPRESSED_SENTINEL" Bundle.listD A s s.heap) (hS : va_S A s.heap H locs) (hsize : ls.size = c.maxLocals)
    (d0 : decode cc pc = .ok (.new ik, 3)) (d3 : decode cc (pc + 3) = .ok (.dup, 1)) (d4 : decode cc (pc + 4) = .ok (.ldc_w is, 3)) (d7 : decode cc (pc + 7) = .ok (.invokespecial ic, 3)) (d10 : decode cc (pc + 10) = .ok (.athrow, 1))
    (hout : ∀ x ∈ c.exceptionTable.toList, covers x (pc + 10) = false)
    (hRframes : names.length + 3 < R.frames) (hRlocals : (rest.map fun v => v.category).sum + (13 * (names.length + 1) + 43) ≤ R.locals) (hRcells : cells + 1 ≤ R.cells) (hRslots : slots + 6 ≤ R.slots) (hlocks : meth.locks = false)
    (hx : ∀ t : State, s.vm.Alike t.vm → H.size ≤ t.heap.size → (∀ q : Nat, q < H.size → t.heap[q]? = H[q]?) → XC cls s t)
    (hf : ∀ z ∈ locs, free z.base) (hc : cells + 1 ≤ mc) (hs : slots + 6 ≤ ms) :
    W p l e R s m args below meth c H locs cells slots (vx_MQ below Qc XC args s mc ms free) (F0 m pc ls rest) := by
  intro T hT X
  have htr : e.platform.stackTraces = false := (show e.platform.stackTraces = l.stackTraces by rw [X.admits.platform]).trans hl
  have Y := vx_rebase X (R' := { frames := R.frames, locals := R.locals, cells := 1, slots := 6 }) (Nat.le_refl _) (Nat.le_refl _) hRcells hRslots
  obtain ⟨s', hA⟩ : ∃ z, z = (T.setVm s.vm).setFrames (.invoking m args :: below) := ⟨_, rfl⟩
  rw [← hA] at Y
  have hvm : s'.vm = s.vm := by rw [hA]; rfl
  have hhp : s'.heap = H := by rw [hA]; exact hT
  have hW0 : s.WarmedH s'.vm := by rw [hvm]; exact State.WarmedH.refl s
  have hat' : ∀ w ∈ vx_atS own ic cls names, w.before args s' = true := fun w hw => vx_ot_at hW0 hvm.symm (hgood w (List.mem_cons_of_mem _ (List.mem_cons_of_mem _ hw))) (hat w hw)
  have hk' : (Cond.classLink own ik cls).before args s' = true := vx_ot_at hW0 hvm.symm (hgood _ List.mem_cons_self) hk
  have hini' : (Cond.initialized cls).before args s' = true := vx_ot_at hW0 hvm.symm (hgood _ (List.mem_cons_of_mem _ List.mem_cons_self)) hini
  have hU' : vx_Zq Bundle.tN "UNASSIGNED_STACK" Bundle.steD A s' s'.heap := by rw [hhp]; exact vx_Zq.moved hW0.alike (hU.kept hS.2.1)
  have hN' : vx_Zq Bundle.tN "SUPPRESSED_SENTINEL" Bundle.listD A s' s'.heap := by rw [hhp]; exact vx_Zq.moved hW0.alike (hN.kept hS.2.1)
  have h : ∀ w ∈ Bundle.ownAtoms own ic cls names, w.before args s' = true := vx_own hat' (vx_isRefq hU'.1) (vx_isRefq hN'.1) hU'.2.word hN'.2.word
  have hown' : s'.vm.findClass own = some m.cls := by rw [hvm]; exact hown
  have hins : (Cond.instantiable cls 6).before args s' = true := h _ (by simp [Bundle.ownAtoms])
  obtain ⟨vm₁, cX, kX, hfX, hkX, -, -, X₁, st1⟩ := Y.newCold hexec (own := own) (C := cls) (index := ik) (n := 6) hown' hk' hins hini'
    (g := F0 m pc ls rest) rfl (by rw [hb]; exact d0) (Nat.le_refl _) (Nat.le_refl _)
  generalize hT1 : (T.setVm vm₁).pushCell { cls := cX, slots := kX.instanceTypes.map defaultValue, vm := .none } = T1 at X₁ st1
  have hcat : (Value.ref T.heap.size).category = 1 := rfl
  have hcellA : T1.heap[T.heap.size]? = some (freshCell cX kX) := by rw [← hT1]; exact State.heap_pushCell_size _ _
  have d3' : decode c.code (pc + 3) = .ok (.dup, 1) := by rw [hb]; exact d3
  have d4' : decode c.code (pc + 4) = .ok (.ldc_w is, 3) := by rw [hb]; exact d4
  have hstr' : vk_R own is text sa s' := vk_R.warm hW0 hstr
  obtain ⟨U, hsteps, hrun, hend, hW, hsame, ce, hce, hO⟩ := X₁.ctorThrowS hexec htr (own := own) (cls := cls) (names := names) (ic := ic) hown' hcls hnames h (fun x hx => nomatch hx) hfX hkX hcellA (by rw [hhp, hT]; exact Nat.le_refl _) (msg := .ref sa) rfl
    (g := { method := m, pc := pc + 7, locals := ls, stack := .ref sa :: .ref T.heap.size :: .ref T.heap.size :: rest, locked := none }) rfl hsize rfl rfl (rest := rest) rfl
    (by rw [hb]; exact d7) (by rw [hb]; exact d10) hout hRframes (by simp only [List.map_cons, List.sum_cons, hcat]; omega) hlocks
  obtain ⟨f1, f2⟩ := vx_frame hsame
  rw [hhp] at f1 f2
  have hWs : s.WarmedH U.vm := State.WarmedH.trans hW0 hW
  have hcl : s.vm.findClass cls = some ce.cls := by
    have h9 := hO.cls
    rw [hvm] at h9
    exact h9
  have hall : s.sameButNew ({ U with vm := s.vm } : State) locs mc ms := by
    subst hA
    obtain ⟨e1, e2⟩ := hsame
    rw [State.setFrames_setFrames] at e1
    have h2 : (T.setVm s.vm).sameButNew ({ U with vm := s.vm } : State) [] (0 + 1) (0 + 6) := ⟨e1, e2⟩
    have h3 := X.same.trans h2
    rw [List.append_nil] at h3
    exact h3.mono hc hs
  refine ⟨U, ?_, .threw T.heap.size, hrun, hend, Or.inr ⟨T.heap.size, rfl, cls, ce, locs, hx U hWs.alike f1 (fun q hq => f2 q hq (fun z hz => nomatch hz)), hce, hO.vm, hcl, hWs, hall, hf⟩⟩
  refine st1 _ ?_
  show Steps p.tables e below (T1.setTop { method := m, pc := pc + 3, locals := ls, stack := .ref T.heap.size :: rest, locked := none }) _
  jvm_step X₁.here [X₁.here.top, hexec, d3', Value.category]
  exact X₁.ldcStringW hexec (own := own) (text := text) (index := is) (a := sa) hown' hstr'.1 hstr'.2
    (g := { method := m, pc := pc + 4, locals := ls, stack := .ref T.heap.size :: .ref T.heap.size :: rest, locked := none }) rfl d4' _ hsteps
end Ends
section Bodies
variable {l : Launch}
theorem vx_ofW {y : MethodName} {ws ws' : List Cond} {rm : Room} {Pc : Array Value → State → Prop} {Qc : Array Value → State → Outcome → State → Prop} {XC : String → State → State → Prop} {mc ms : Nat} {free : Addr → Prop} {cc : ByteArray} {maxL : Nat} {ret : Option FieldType}
    (hy : plainName y.cls = true) (hw : ws = Cond.code y cc maxL ret :: ws')
    (body : ∀ p e s m args below meth c s₁, BodyLoose p l y (headSpec ws rm) cc maxL ret e s m args below meth c s₁ → c.maxLocals = maxL → (∀ x ∈ c.exceptionTable.toList, False) → Pc args s →
      W p l e (headSpec ws rm).room s m args below meth c s.heap [] 0 0 (vx_MQ below Qc XC args s mc ms free) (entryFrame m args maxL)) : vx_Met l y ws rm Pc Qc XC mc ms free := by
  refine MetFree.of_bodyS (code := cc) (maxLocals := maxL) (ret := ret) hy ?_ ?_
  · intro args s m h hn
    obtain ⟨meth, c, h1, h2, h3, h4, h5, h6, -, -⟩ := Cond.code_spec hn (atoms_spec (ws := ws) h _ (by rw [hw]; exact List.mem_cons_self))
    exact ⟨meth, c, h1, h2, h3, h4, h5, h6⟩
  · intro p e s m args below meth c s₁ B hml hP _
    have hh0 : s₁.heap = s.heap := by rw [B.state]; rfl
    have ht : ∀ x ∈ c.exceptionTable.toList, False := by
      obtain ⟨meth9, c9, h1, h2, -, -, -, -, h7, -⟩ := Cond.code_spec B.named (atoms_spec (ws := ws) B.pre _ (by rw [hw]; exact List.mem_cons_self))
      cases Option.some.inj (h1.symm.trans B.method)
      cases Option.some.inj (h2.symm.trans (Stand.of_body B).code)
      intro x hx
      rw [Array.isEmpty_iff.mp h7] at hx
      cases hx
    obtain ⟨t, a1, o, b1, b2, b3⟩ := body p e s m args below meth c s₁ B hml ht hP s₁ hh0 (Stand.of_body B)
    exact ⟨t, o, a1, b1, b2, b3⟩
/-- the table of a body with handlers -/
theorem vx_table {p : Program} {x y : MethodName} {S : Spec} {cc bytes : ByteArray} {maxL maxL' : Nat} {ret ret' : Option FieldType} {e : Env} {s s₁ : State} {m : MethodId} {args : Array Value} {below : List Frame} {meth : Method} {c : Code} {hh : List (Nat × Nat × Nat × Nat)}
    (B : BodyLoose p l y S cc maxL ret e s m args below meth c s₁) (h : (Cond.codeWith y bytes maxL' ret' hh).before args s = true) : c.exceptionTable.toList = tableOf hh := by
  obtain ⟨m9, meth9, c9, hn9, h1, h2, -, -, h6, -⟩ := Cond.codeWith_spec h
  cases Option.some.inj (hn9.symm.trans B.named)
  cases Option.some.inj (h1.symm.trans B.method)
  cases Option.some.inj (h2.symm.trans (Stand.of_body B).code)
  rw [← h6, table_eq]
end Bodies
end VXA
/-! ===== END ===== -/
/-! ===== BEGIN a static call of a method with an exception table ===== -/
section VXS
variable {p : Program} {l : Launch} {e : Env} {R : Room} {s : State} {m : MethodId} {args : Array Value} {below : List Frame} {meth : Method} {c : Code} {T : State} {H : Heap} {locs : List Loc} {cells slots : Nat}
abbrev vx_CSW (R : Room) (s : State) (args : Array Value) (own : String) (index : Nat) (y : MethodName) (bytes : ByteArray) (maxL : Nat) (ret : Option FieldType) (hh : List (Nat × Nat × Nat × Nat)) (ws : List Cond) (rm : Room) (mc ms n : Nat) : Prop :=
  (rm.cells = mc ∧ rm.slots = ms ∧ rm.frames + 1 ≤ R.frames ∧ 8 + (maxL + 11) + rm.locals ≤ R.locals ∧ (∀ w ∈ ws, ∀ (a' : Array Value) (U : State), s.WarmedH U.vm → w.before a' U = true) ∧ Cond.codeWith y bytes maxL ret hh ∈ ws) ∧
  (Cond.codeWith y bytes maxL ret hh).before args s = true ∧ (Cond.initialized y.cls).before args s = true ∧ (y.cls ≠ "java/lang/invoke/MethodHandle" ∧ y.cls ≠ "java/lang/invoke/VarHandle") ∧
  (∀ sig, parseMethodDescriptor y.desc = some sig → n = sig.parameters.length) ∧ (Cond.methodLink own index y).before args s = true ∧ (Cond.static y).before args s = true
theorem vx_cwSW {own : String} {index maxL mc ms : Nat} {y : MethodName} {bytes : ByteArray} {ret : Option FieldType} {hh : List (Nat × Nat × Nat × Nat)} {Ts ws ws' : List Cond} {rm : Room} (n : Nat) (ht : ∀ w ∈ Ts, w.before args s = true) (hT : GoodIn Ts (va_wsS own index y ws)) (hw : ws = Cond.codeWith y bytes maxL ret hh :: ws') (hrc : rm.cells = mc) (hrs : rm.slots = ms)
    (hd : y.cls ≠ "java/lang/invoke/MethodHandle" ∧ y.cls ≠ "java/lang/invoke/VarHandle" ∧ (parseMethodDescriptor y.desc).map (fun d => d.parameters.length) = some n) (hR : rm.frames + 1 ≤ R.frames ∧ 8 + (maxL + 11) + rm.locals ≤ R.locals) :
    vx_CSW R s args own index y bytes maxL ret hh ws rm mc ms n := by
  have ok : ∀ w ∈ va_wsS own index y ws, w.before args s = true := fun w h => ht w (hT w h).1
  have hG : GoodIn Ts ws := fun w h => hT w (by unfold va_wsS; exact List.mem_append_right _ h)
  have hc : Cond.codeWith y bytes maxL ret hh ∈ ws := by rw [hw]; exact List.mem_cons_self
  refine ⟨⟨hrc, hrs, hR.1, hR.2, pay_in ht hG, hc⟩, ht _ (hG _ hc).1, ok _ (by simp [va_wsS]), ⟨hd.1, hd.2.1⟩, fun sig h => ?_, ok _ (by simp [va_wsS]), ok _ (by simp [va_wsS])⟩
  have h2 := hd.2.2
  rw [h] at h2
  exact (Option.some.inj h2).symm
theorem vx_callSW (X : Stand p l e R s m args below meth c T locs cells slots) (hexec : p.tables.exec = Jvm.exec) {own : String} {index : Nat} {y : MethodName} {bytes : ByteArray} {maxL : Nat} {ret : Option FieldType} {hh : List (Nat × Nat × Nat × Nat)}
    (hown : s.vm.findClass own = some m.cls) (hlink : (Cond.methodLink own index y).before args s = true) (hstat : (Cond.static y).before args s = true) (hinit : (Cond.initialized y.cls).before args s = true)
    (hcode : (Cond.codeWith y bytes maxL ret hh).before args s = true) (hy : y.cls ≠ "java/lang/invoke/MethodHandle" ∧ y.cls ≠ "java/lang/invoke/VarHandle")
    {W9 : Nat} {Pre : Pt → Array Value → Prop} {Post : Pt → Array Value → Option Value → Pt → Prop} (hK : Back l R p e below s args y 3 W9 Pre Post)
    {g : JFrame} (hg : g.method = m) (hsize : g.locals.size = c.maxLocals) {argsL rest : List Value} (hlen : ∀ sig, parseMethodDescriptor y.desc = some sig → argsL.length = sig.parameters.length)
    (hstack : g.stack = argsL.reverse ++ rest) (hW : 2 * g.monitorRoom + (rest.map fun v => v.category).sum ≤ W9) (hdg : decode c.code g.pc = .ok (.invokestatic index, 3))
    (hpre : ∀ vm₁, s.WarmedH vm₁ → Pre ⟨T.setVm vm₁, locs, cells, slots⟩ argsL.toArray) :
    ∃ (v : Option Value) (vm₁ : Vm) (B : Pt), s.WarmedH vm₁ ∧ Stand p l e R s m args below meth c B.U B.locs B.cells B.slots ∧ Post ⟨T.setVm vm₁, locs, cells, slots⟩ argsL.toArray v B ∧
      ∀ target, Steps p.tables e below (B.U.setTop { g with pc := g.pc + 3, stack := v.toList ++ rest }) target → Steps p.tables e below (T.setTop g) target := by
  obtain ⟨mk, methM, cM, hnamed, hmethM, -, -, -, -, -, -, hsigM⟩ := Cond.codeWith_spec hcode
  have hstatic : methM.isStatic = true := Cond.static_spec hnamed hmethM hstat
  obtain ⟨kP, hkP, -⟩ := className_of_methodNamed hnamed
  have hinitP : kP.init = .initialized := Cond.initialized_spec (findClass_of_methodNamed hnamed) hkP hinit
  obtain ⟨vm₁, X₁, hstep₁⟩ := X.invokestatic hexec hown hlink hnamed hmethM hstatic hkP hinitP hy (g := g) hg (argsL := argsL) (rest := rest) (hlen _ hsigM) hstack hdg
  obtain ⟨v, B, X', hpost, hsteps⟩ := hK m meth c ⟨T.setVm vm₁, locs, cells, slots⟩ { g with stack := rest } (.invokestatic index) mk argsL.toArray X₁ hg hsize hdg hW (X₁.named hnamed) (hpre vm₁ X₁.warmed)
  exact ⟨v, vm₁, B, X₁.warmed, X', hpost, fun target h => hstep₁ _ fun acts => by rw [doInvoke_state]; exact hsteps.trans h⟩
theorem vx_runSW {y : MethodName} {bytes cc : ByteArray} {maxL nL mc ms n index : Nat} {ret : Option FieldType} {hh : List (Nat × Nat × Nat × Nat)} {ws : List Cond} {rm : Room} {Pc : Array Value → State → Prop} {Qc : Array Value → State → Outcome → State → Prop} {free : Addr → Prop} {Ts : List Cond} {own : String} {As rest : List Value} {g : JFrame}
    (S : CallFix p m c cc nL s args Ts own) (hM : Met l y ws rm Pc Qc mc ms free) (cw : vx_CSW R s args own index y bytes maxL ret hh ws rm mc ms n) (hp : PreS s H Pc As)
    (hg : g.method = m) (hn : As.length = n) (hsize : g.locals.size = nL) (hstack : g.stack = As.reverse ++ rest) (hW : 2 * g.monitorRoom + (rest.map fun v => v.category).sum ≤ 8) (hdg : decode cc g.pc = .ok (.invokestatic index, 3)) (hf : cells + mc ≤ R.cells ∧ slots + ms ≤ R.slots) :
    va_Run p l e R s m args below meth c H locs cells slots mc ms g rest (Qc As.toArray) (free) := by
  obtain ⟨⟨hrc, hrs, hfr, hlo, hws, hcw⟩, hcode, hini, hy, hlen, hl, hstt⟩ := cw
  have hK : Back l R p e below s args y 3 8 (PreOf R mc ms Pc) (PostOf Qc mc ms free) := va_backW (hh := hh) (bytes := bytes) (maxL := maxL) (ret := ret) hM hp.1 hrc hrs hfr hlo hws hcw (fun a' U hW => word_at hW (Or.inl (by first | rfl | simp [Cond.onTables, Cond.keeps, Cond.steady])) hini)
  obtain ⟨hx, hb, hml, ho, -⟩ := S
  intro T hT X
  obtain ⟨v, vm₁, ⟨U', l2, c2, s2⟩, hW₁, X', ⟨g', mk, t, L, e1, e2, hq, h1, hL, h2, h3⟩, st⟩ := vx_callSW X hx (hh := hh) (bytes := bytes) (maxL := maxL) (ret := ret) ho hl hstt hini hcode hy hK hg (hsize.trans hml.symm) (argsL := As) (rest := rest) (fun sig h => hn.trans (hlen sig h)) hstack hW (by rw [hb]; exact hdg)
    (fun vm₁ hW₁ => ⟨hf.1, hf.2, hp.2 (T.setVm vm₁) hT hW₁⟩)
  dsimp only [Pt.U, Pt.locs, Pt.cells, Pt.slots] at X' e1 e2 h1 h2 h3 st
  subst h1; subst h2; subst h3
  exact ⟨v, (T.setVm vm₁).calling g' mk As.toArray, t, U', L, hT, X', hL, e1, e2, hq, st⟩
/-- not caught here, past rows that name other classes: it goes on to the caller -/
theorem vx_outP {p : Program} {l : Launch} {e : Env} {R : Room} {s : State} {m : MethodId} {args : Array Value} {below : List Frame} {meth : Method} {c : Code} {H : Heap} {locs : List Loc} {cells slots : Nat} {free : Addr → Prop} {ls : Array Slot} {rest : List Value} {Qc : Array Value → State → Outcome → State → Prop} {XC : String → State → State → Prop}
    {pc : Nat} {own E : String} {ce : Cell} {q : Addr} {mc ms : Nat} (hown : s.vm.findClass own = some m.cls) (hlocks : meth.locks = false)
    (hpass : ∀ z ∈ c.exceptionTable.toList, covers z pc = false ∨ (z.catchType ≠ 0 ∧ ∃ nm : String, (Cond.classLink own z.catchType nm).before args s = true ∧ va_Nc E nm s)) (hcell : H[q]? = some ce) (hv : ce.vm = .none) (hcl : s.vm.findClass E = some ce.cls)
    (hx : ∀ t : State, t.heap = H → s.vm.Alike t.vm → XC E s t) (hf : ∀ z ∈ locs, free z.base) (hc : cells ≤ mc) (hs : slots ≤ ms) :
    vx_W p l e R s m args below meth c H locs cells slots (vx_MQ below Qc XC args s mc ms free) (F0 m pc ls rest) q := by
  intro T hT X
  have hpl : e.platform.magicAccessors = ({} : Platform).magicAccessors := by rw [X.admits.platform]
  obtain ⟨vm', hW', X', st⟩ := X.outThrough hlocks q (g := F0 m pc ls rest) rfl rfl rfl (cell := ce) (by rw [hT]; exact hcell) (by rw [hv]; rfl)
    (by obtain ⟨k9, h9, -⟩ := Vm.findClass_spec hcl; exact ⟨k9, h9⟩) (fun z hz => by
      rcases hpass z hz with h | ⟨hz0, nm, hl1, hn1⟩
      · exact Or.inl h
      · obtain ⟨c6, hc6, hcl6⟩ := Cond.classLink_spec hown hl1 e.platform hpl
        obtain ⟨a8, b8, h1, h2, h3⟩ := hn1
        cases Option.some.inj (h1.symm.trans hcl)
        cases Option.some.inj (h2.symm.trans hc6)
        exact Or.inr ⟨hz0, _, hcl6, h3⟩)
  obtain ⟨g₀, hfr⟩ := X'.frames_eq
  have hcell9 : ((T.setVm vm').setFrames (.throwing q :: below)).heap[q]? = some ce := by
    show T.heap[q]? = some ce
    rw [hT]; exact hcell
  have hend : Ended ((T.setVm vm').setFrames (.throwing q :: below)) below (.threw q) := State.frames_setFrames _ (State.cur_lt_of_frames hfr)
  refine ⟨(T.setVm vm').setFrames (.throwing q :: below), ?_, .threw q, X'.here.running, hend, Or.inr ⟨q, rfl, E, ce, locs, hx _ hT (X'.ends _).1.alike, hcell9, hv, hcl, (X'.ends _).1, (X'.ends _).2.mono hc hs, hf⟩⟩
  rw [X.pushThrowing_eq]
  exact st
/-- a thing of a world lies in the heap -/
theorem vx_lt {D : va_G} {cl : List vw_C} {ws : va_W} {H1 : Heap} (h : va_P D cl ws H1) {k : Nat} {q : Nat × va_E} (hk : ws[k]? = some q) : q.1 < H1.size := (h k q hk).lt
end VXS
/-! ===== END ===== -/
/-! ===== BEGIN methods with a table of their own: called by a name, returning or throwing ===== -/
section VXH
/-! vx_backW, vx_callVX, vx_callSX, vx_callVW, vx_runVW, vx_runVX, vx_runSX, vx_ofWH follow the same proofs as their sisters above (Free/Laws.lean, Shelf42/LK1.lean); vx_outP calls Shelf42/NT130.lean (outThrough). -/
section
variable {l : Launch} {R : Room} {p : Program} {e : Env} {below : List Frame} {s : State} {sargs : Array Value} {y : MethodName} {len W9 : Nat}
theorem vx_backW {ws : List Cond} {rm : Room} {Pc : Array Value → State → Prop} {Qc : Array Value → State → Outcome → State → Prop} {XC : String → State → State → Prop} {mc ms : Nat} {free : Addr → Prop} {bytes : ByteArray} {maxL : Nat} {ret : Option FieldType} {hh : List (Nat × Nat × Nat × Nat)}
    (hM : vx_Met l y ws rm Pc Qc XC mc ms free) (hblind : FrameBlind Pc) (hrc : rm.cells = mc) (hrs : rm.slots = ms)
    (hframes : rm.frames + 1 ≤ R.frames) (hlocals : W9 + (maxL + 11) + rm.locals ≤ R.locals)
    (hws : ∀ w ∈ ws, ∀ a' U, s.WarmedH U.vm → w.before a' U = true) (hcode : Cond.codeWith y bytes maxL ret hh ∈ ws) (hinit : ∀ a' U, s.WarmedH U.vm → (Cond.initialized y.cls).before a' U = true) :
    vx_Back l R p e below s sargs y len W9 (PreOf R mc ms Pc) (PostOf Qc mc ms free) (vx_Post XC mc ms free) := by
  intro m meth c A g ig mk a X hg hsize hdg hW hn hp
  have h1 : (headSpec ws rm).pre.before a A.U = true := atoms_intro fun w hw => hws w hw _ _ X.warmed
  have h2 : (Cond.codeWith y bytes maxL ret hh).before a A.U = true := hws _ hcode _ _ X.warmed
  have h3 : (Cond.initialized y.cls).before a A.U = true := hinit _ _ X.warmed
  have h4 : A.cells + (headSpec ws rm).room.cells ≤ R.cells := by rw [show (headSpec ws rm).room.cells = mc from hrc]; exact hp.1
  have h5 : A.slots + (headSpec ws rm).room.slots ≤ R.slots := by rw [show (headSpec ws rm).room.slots = ms from hrs]; exact hp.2.1
  have hPc : Pc a (A.U.calling g mk a) := hblind _ _ _ _ hp.2.2
  obtain ⟨U, Ls, c0, s0⟩ := A
  dsimp only [Pt.U, Pt.locs, Pt.cells, Pt.slots] at h1 h2 h3 h4 h5 X hn hPc ⊢
  obtain ⟨m9, methY, cY, hn9, hmY, hcY, -, hlY, -⟩ := Cond.codeWith_spec h2
  cases Option.some.inj (hn9.symm.trans hn)
  obtain ⟨kY, hkY, -⟩ := className_of_methodNamed hn
  have hinitY : kY.init = .initialized := Cond.initialized_spec (findClass_of_methodNamed hn) hkY h3
  have h : At U g.method c below := by rw [hg]; exact X.here
  have hlocals9 : W9 + (maxL + 11) + (headSpec ws rm).room.locals ≤ R.locals := hlocals
  have happ : (headSpec ws rm).appliesLoose y e.platform (U.calling g mk a) = true :=
    Spec.appliesLoose_calling (g := g) h hdg hn hkY hinitY
      (X.room_calling (g := g) (R' := (headSpec ws rm).room) hsize hmY hcY hframes (by rw [hlY]; omega) h4 h5) h1
  obtain ⟨mid, hmid⟩ := h.above
  have hfr : (U.setTop g).frames = (.java g :: mid) ++ below := by rw [State.frames_setTop' g h.top, hmid]; rfl
  obtain ⟨o, s₂, hsteps, -, hend, hq⟩ := Steps.callFree hM p X.admits X.cas X.clock (acts := []) hfr happ hPc trivial
  have hq' : vx_Q Qc XC mc ms free a (U.calling g mk a) o s₂ := hq
  rw [State.frames_setTop' g h.top] at hend
  obtain ⟨g₀, hg0⟩ := Option.isSome_iff_exists.mp h.top
  obtain ⟨r, hr⟩ := State.topJava?_eq_some.mp hg0
  have hr' : (({ U with heap := s₂.heap, slotsUsed := s₂.slotsUsed } : State).setVm s₂.vm).frames = .java g₀ :: r := hr
  rcases hq' with ⟨hqc, L, hfe, hL⟩ | ⟨q, rfl, E, ce, L, hx, hce, hcv, hcl, hW₂, hsm, hL⟩
  · obtain ⟨⟨v, rfl⟩, hW₂, e2, q2, q3, q4, q5, q6⟩ := id hfe
    have e3 : s₂ = ({ (U.calling g mk a).setFrames s₂.frames with heap := s₂.heap, slotsUsed := s₂.slotsUsed } : State).setVm s₂.vm := by
      have : s₂ = ({ s₂ with vm := (U.calling g mk a).vm } : State).setVm s₂.vm := rfl
      rw [e2] at this
      exact this
    obtain ⟨c₂, i₂, len₂, hc₂, hd₂, hf₂⟩ := hend
    have hW' : U.WarmedH s₂.vm := hW₂
    have hcc : c₂ = c := by
      have h1 : s₂.code? g.method = U.code? g.method := by
        rw [State.code?_eq, State.code?_eq, hW'.alike.method?]
      exact Option.some.inj (hc₂.symm.trans (h1.trans h.code))
    subst hcc
    have hlen : len₂ = len := by rw [hdg] at hd₂; cases hd₂; rfl
    subst hlen
    have hs₂ : s₂ = (({ U with heap := s₂.heap, slotsUsed := s₂.slotsUsed } : State).setVm s₂.vm).setTop { g with pc := g.pc + len₂, stack := v.toList ++ g.stack } := by
      refine e3.trans ?_
      rw [hf₂, State.calling_eq h.top, State.setFrames_setFrames, State.setTop_of_frames _ hr', hr]
      rfl
    have hsame : U.sameButNew ({ U with heap := s₂.heap, slotsUsed := s₂.slotsUsed } : State) L mc ms := by
      refine ⟨?_, q2, q3, q4, q5, q6⟩
      obtain ⟨t, ht, -⟩ := State.frames_cons hr
      show ({ U with heap := s₂.heap, slotsUsed := s₂.slotsUsed } : State) = { U.setFrames U.frames with heap := s₂.heap, slotsUsed := s₂.slotsUsed }
      rw [State.setFrames_self ht]
    subst hg
    refine Or.inl ⟨v, ⟨(({ U with heap := s₂.heap, slotsUsed := s₂.slotsUsed } : State).setVm s₂.vm), Ls ++ L, c0 + mc, s0 + ms⟩,
      ⟨X.admits, X.cas, X.clock, X.frames, X.room, X.hears, X.method, X.code, (X.here.setHeapUsed s₂.heap s₂.slotsUsed).setVm hW'.alike, X.tail, State.WarmedH.trans X.warmed hW', X.limits, X.bytes, X.same.trans (hsame.setVm s.vm)⟩,
      ⟨g, mk, s₂, L, rfl, rfl, hqc, rfl, hL, rfl, rfl⟩, ?_⟩
    show Steps p.tables e below _ ((({ U with heap := s₂.heap, slotsUsed := s₂.slotsUsed } : State).setVm s₂.vm).setTop { g with pc := g.pc + len₂, stack := v.toList ++ g.stack })
    rw [← hs₂]
    exact hsteps
  · obtain ⟨e2, q2, q3, q4, q5, q6⟩ := id hsm
    have e3 : s₂ = ({ (U.calling g mk a).setFrames s₂.frames with heap := s₂.heap, slotsUsed := s₂.slotsUsed } : State).setVm s₂.vm := by
      have : s₂ = ({ s₂ with vm := (U.calling g mk a).vm } : State).setVm s₂.vm := rfl
      rw [e2] at this
      exact this
    have hf₂ : s₂.frames = .throwing q :: .java g :: U.frames.tail := hend
    have hW' : U.WarmedH s₂.vm := hW₂
    have hs₂ : s₂ = ((({ U with heap := s₂.heap, slotsUsed := s₂.slotsUsed } : State).setVm s₂.vm).setTop g).pushFrame (.throwing q) := by
      refine e3.trans ?_
      rw [hf₂, State.calling_eq h.top, State.setFrames_setFrames, State.pushFrame, State.frames_setTop _ hr', State.setTop_of_frames _ hr', State.setFrames_setFrames, hr]
      rfl
    have hsame : U.sameButNew ({ U with heap := s₂.heap, slotsUsed := s₂.slotsUsed } : State) L mc ms := by
      refine ⟨?_, q2, q3, q4, q5, q6⟩
      obtain ⟨t, ht, -⟩ := State.frames_cons hr
      show ({ U with heap := s₂.heap, slotsUsed := s₂.slotsUsed } : State) = { U.setFrames U.frames with heap := s₂.heap, slotsUsed := s₂.slotsUsed }
      rw [State.setFrames_self ht]
    subst hg
    refine Or.inr ⟨q, ⟨(({ U with heap := s₂.heap, slotsUsed := s₂.slotsUsed } : State).setVm s₂.vm), Ls ++ L, c0 + mc, s0 + ms⟩,
      ⟨X.admits, X.cas, X.clock, X.frames, X.room, X.hears, X.method, X.code, (X.here.setHeapUsed s₂.heap s₂.slotsUsed).setVm hW'.alike, X.tail, State.WarmedH.trans X.warmed hW', X.limits, X.bytes, X.same.trans (hsame.setVm s.vm)⟩,
      ⟨g, mk, s₂, L, E, ce, rfl, rfl, hx, hce, hcv, hcl, rfl, hL, rfl, rfl⟩, ?_⟩
    show Steps p.tables e below _ (((({ U with heap := s₂.heap, slotsUsed := s₂.slotsUsed } : State).setVm s₂.vm).setTop g).pushFrame (.throwing q))
    rw [← hs₂]
    exact hsteps
end
variable {p : Program} {l : Launch} {e : Env} {R : Room} {s : State} {m : MethodId} {args : Array Value} {below : List Frame} {meth : Method} {c : Code} {T : State} {H : Heap} {locs : List Loc} {cells slots : Nat}
theorem vx_callVX (X : Stand p l e R s m args below meth c T locs cells slots) (hexec : p.tables.exec = Jvm.exec) {own C : String} {index : Nat} {y : MethodName} {bytes : ByteArray} {maxL : Nat} {ret : Option FieldType} {hh : List (Nat × Nat × Nat × Nat)}
    (hown : s.vm.findClass own = some m.cls) (hlink : (Cond.methodLink own index y).before args s = true) (hinst : (Cond.instanceMethod y).before args s = true) (hsel : (Cond.selects C y y).before args s = true)
    (hcode : (Cond.codeWith y bytes maxL ret hh).before args s = true) (hy : y.cls ≠ "java/lang/invoke/MethodHandle" ∧ y.cls ≠ "java/lang/invoke/VarHandle")
    {W9 : Nat} {Pre : Pt → Array Value → Prop} {Post : Pt → Array Value → Option Value → Pt → Prop} {PostX : Pt → Array Value → Addr → Pt → Prop} (hK : vx_Back l R p e below s args y 3 W9 Pre Post PostX)
    {b : Addr} {cellB : Cell} (hcell : T.heap[b]? = some cellB) (hobj : cellB.vm.isStatics = false) (hcls : s.vm.findClass C = some cellB.cls)
    {g : JFrame} (hg : g.method = m) (hsize : g.locals.size = c.maxLocals) {argsL rest : List Value} (hlen : ∀ sig, parseMethodDescriptor y.desc = some sig → argsL.length = sig.parameters.length)
    (hstack : g.stack = argsL.reverse ++ .ref b :: rest) (hW : 2 * g.monitorRoom + (rest.map fun v => v.category).sum ≤ W9) (hdg : decode c.code g.pc = .ok (.invokevirtual index, 3))
    (hpre : ∀ vm₁, s.WarmedH vm₁ → Pre ⟨T.setVm vm₁, locs, cells, slots⟩ (Value.ref b :: argsL).toArray) :
    (∃ (v : Option Value) (vm₁ : Vm) (B : Pt), s.WarmedH vm₁ ∧ Stand p l e R s m args below meth c B.U B.locs B.cells B.slots ∧ Post ⟨T.setVm vm₁, locs, cells, slots⟩ (Value.ref b :: argsL).toArray v B ∧
      ∀ target, Steps p.tables e below (B.U.setTop { g with pc := g.pc + 3, stack := v.toList ++ rest }) target → Steps p.tables e below (T.setTop g) target) ∨
    (∃ (q : Addr) (vm₁ : Vm) (B : Pt), s.WarmedH vm₁ ∧ Stand p l e R s m args below meth c B.U B.locs B.cells B.slots ∧ PostX ⟨T.setVm vm₁, locs, cells, slots⟩ (Value.ref b :: argsL).toArray q B ∧
      Steps p.tables e below (T.setTop g) ((B.U.setTop { g with stack := rest }).pushFrame (.throwing q))) := by
  obtain ⟨mk, methM, hnamed, hmethM, hstM, habM⟩ := Cond.instanceMethod_spec hinst
  obtain ⟨m8, methM', cM, hn8, hmethM', -, -, -, -, -, -, hsigM⟩ := Cond.codeWith_spec hcode
  cases Option.some.inj (hn8.symm.trans hnamed)
  cases hmethM.symm.trans hmethM'
  obtain ⟨c2, r2, m2, q1, q2, q3, q4, kP, hkP, hkPi⟩ := Cond.selects_spec hsel
  cases hcls.symm.trans q1
  cases (State.methodFound?_of_named hnamed hy).symm.trans q2
  cases hnamed.symm.trans q3
  have hselP : selectMethod e.platform s.vm cellB.cls mk = .method mk := by rw [Launch.admits_selectMethod X.admits]; exact q4
  obtain ⟨vm₁, X₁, hstep₁⟩ := X.invokevirtual hexec hown hlink hnamed hmethM hstM hkP hkPi hy (a := b) (cell := cellB) hcell
    (fun z h => by rw [h] at hobj; cases hobj) hselP hmethM habM hkP hkPi (g := g) hg (argsL := argsL) (rest := rest) (hlen _ hsigM) hstack hdg
  rcases hK m meth c ⟨T.setVm vm₁, locs, cells, slots⟩ { g with stack := rest } (.invokevirtual index) mk (Value.ref b :: argsL).toArray X₁ hg hsize hdg hW (X₁.named hnamed) (hpre vm₁ X₁.warmed) with ⟨v, B, X', hpost, hsteps⟩ | ⟨q, B, X', hpost, hsteps⟩
  · exact Or.inl ⟨v, vm₁, B, X₁.warmed, X', hpost, fun target h => hstep₁ _ fun acts => by rw [doInvoke_state]; exact hsteps.trans h⟩
  · exact Or.inr ⟨q, vm₁, B, X₁.warmed, X', hpost, hstep₁ _ fun acts => by rw [doInvoke_state]; exact hsteps⟩
theorem vx_callSX (X : Stand p l e R s m args below meth c T locs cells slots) (hexec : p.tables.exec = Jvm.exec) {own : String} {index : Nat} {y : MethodName} {bytes : ByteArray} {maxL : Nat} {ret : Option FieldType} {hh : List (Nat × Nat × Nat × Nat)}
    (hown : s.vm.findClass own = some m.cls) (hlink : (Cond.methodLink own index y).before args s = true) (hstat : (Cond.static y).before args s = true) (hinit : (Cond.initialized y.cls).before args s = true)
    (hcode : (Cond.codeWith y bytes maxL ret hh).before args s = true) (hy : y.cls ≠ "java/lang/invoke/MethodHandle" ∧ y.cls ≠ "java/lang/invoke/VarHandle")
    {W9 : Nat} {Pre : Pt → Array Value → Prop} {Post : Pt → Array Value → Option Value → Pt → Prop} {PostX : Pt → Array Value → Addr → Pt → Prop} (hK : vx_Back l R p e below s args y 3 W9 Pre Post PostX)
    {g : JFrame} (hg : g.method = m) (hsize : g.locals.size = c.maxLocals) {argsL rest : List Value} (hlen : ∀ sig, parseMethodDescriptor y.desc = some sig → argsL.length = sig.parameters.length)
    (hstack : g.stack = argsL.reverse ++ rest) (hW : 2 * g.monitorRoom + (rest.map fun v => v.category).sum ≤ W9) (hdg : decode c.code g.pc = .ok (.invokestatic index, 3))
    (hpre : ∀ vm₁, s.WarmedH vm₁ → Pre ⟨T.setVm vm₁, locs, cells, slots⟩ argsL.toArray) :
    (∃ (v : Option Value) (vm₁ : Vm) (B : Pt), s.WarmedH vm₁ ∧ Stand p l e R s m args below meth c B.U B.locs B.cells B.slots ∧ Post ⟨T.setVm vm₁, locs, cells, slots⟩ argsL.toArray v B ∧
      ∀ target, Steps p.tables e below (B.U.setTop { g with pc := g.pc + 3, stack := v.toList ++ rest }) target → Steps p.tables e below (T.setTop g) target) ∨
    (∃ (q : Addr) (vm₁ : Vm) (B : Pt), s.WarmedH vm₁ ∧ Stand p l e R s m args below meth c B.U B.locs B.cells B.slots ∧ PostX ⟨T.setVm vm₁, locs, cells, slots⟩ argsL.toArray q B ∧
      Steps p.tables e below (T.setTop g) ((B.U.setTop { g with stack := rest }).pushFrame (.throwing q))) := by
  obtain ⟨mk, methM, cM, hnamed, hmethM, -, -, -, -, -, -, hsigM⟩ := Cond.codeWith_spec hcode
  have hstatic : methM.isStatic = true := Cond.static_spec hnamed hmethM hstat
  obtain ⟨kP, hkP, -⟩ := className_of_methodNamed hnamed
  have hinitP : kP.init = .initialized := Cond.initialized_spec (findClass_of_methodNamed hnamed) hkP hinit
  obtain ⟨vm₁, X₁, hstep₁⟩ := X.invokestatic hexec hown hlink hnamed hmethM hstatic hkP hinitP hy (g := g) hg (argsL := argsL) (rest := rest) (hlen _ hsigM) hstack hdg
  rcases hK m meth c ⟨T.setVm vm₁, locs, cells, slots⟩ { g with stack := rest } (.invokestatic index) mk argsL.toArray X₁ hg hsize hdg hW (X₁.named hnamed) (hpre vm₁ X₁.warmed) with ⟨v, B, X', hpost, hsteps⟩ | ⟨q, B, X', hpost, hsteps⟩
  · exact Or.inl ⟨v, vm₁, B, X₁.warmed, X', hpost, fun target h => hstep₁ _ fun acts => by rw [doInvoke_state]; exact hsteps.trans h⟩
  · exact Or.inr ⟨q, vm₁, B, X₁.warmed, X', hpost, hstep₁ _ fun acts => by rw [doInvoke_state]; exact hsteps⟩
theorem vx_callVW (X : Stand p l e R s m args below meth c T locs cells slots) (hexec : p.tables.exec = Jvm.exec) {own C : String} {index : Nat} {y : MethodName} {bytes : ByteArray} {maxL : Nat} {ret : Option FieldType} {hh : List (Nat × Nat × Nat × Nat)}
    (hown : s.vm.findClass own = some m.cls) (hlink : (Cond.methodLink own index y).before args s = true) (hinst : (Cond.instanceMethod y).before args s = true) (hsel : (Cond.selects C y y).before args s = true)
    (hcode : (Cond.codeWith y bytes maxL ret hh).before args s = true) (hy : y.cls ≠ "java/lang/invoke/MethodHandle" ∧ y.cls ≠ "java/lang/invoke/VarHandle")
    {W9 : Nat} {Pre : Pt → Array Value → Prop} {Post : Pt → Array Value → Option Value → Pt → Prop} (hK : Back l R p e below s args y 3 W9 Pre Post)
    {b : Addr} {cellB : Cell} (hcell : T.heap[b]? = some cellB) (hobj : cellB.vm.isStatics = false) (hcls : s.vm.findClass C = some cellB.cls)
    {g : JFrame} (hg : g.method = m) (hsize : g.locals.size = c.maxLocals) {argsL rest : List Value} (hlen : ∀ sig, parseMethodDescriptor y.desc = some sig → argsL.length = sig.parameters.length)
    (hstack : g.stack = argsL.reverse ++ .ref b :: rest) (hW : 2 * g.monitorRoom + (rest.map fun v => v.category).sum ≤ W9) (hdg : decode c.code g.pc = .ok (.invokevirtual index, 3))
    (hpre : ∀ vm₁, s.WarmedH vm₁ → Pre ⟨T.setVm vm₁, locs, cells, slots⟩ (Value.ref b :: argsL).toArray) :
    ∃ (v : Option Value) (vm₁ : Vm) (B : Pt), s.WarmedH vm₁ ∧ Stand p l e R s m args below meth c B.U B.locs B.cells B.slots ∧ Post ⟨T.setVm vm₁, locs, cells, slots⟩ (Value.ref b :: argsL).toArray v B ∧
      ∀ target, Steps p.tables e below (B.U.setTop { g with pc := g.pc + 3, stack := v.toList ++ rest }) target → Steps p.tables e below (T.setTop g) target := by
  obtain ⟨mk, methM, hnamed, hmethM, hstM, habM⟩ := Cond.instanceMethod_spec hinst
  obtain ⟨m8, methM', cM, hn8, hmethM', -, -, -, -, -, -, hsigM⟩ := Cond.codeWith_spec hcode
  cases Option.some.inj (hn8.symm.trans hnamed)
  cases hmethM.symm.trans hmethM'
  obtain ⟨c2, r2, m2, q1, q2, q3, q4, kP, hkP, hkPi⟩ := Cond.selects_spec hsel
  cases hcls.symm.trans q1
  cases (State.methodFound?_of_named hnamed hy).symm.trans q2
  cases hnamed.symm.trans q3
  have hselP : selectMethod e.platform s.vm cellB.cls mk = .method mk := by rw [Launch.admits_selectMethod X.admits]; exact q4
  obtain ⟨vm₁, X₁, hstep₁⟩ := X.invokevirtual hexec hown hlink hnamed hmethM hstM hkP hkPi hy (a := b) (cell := cellB) hcell
    (fun z h => by rw [h] at hobj; cases hobj) hselP hmethM habM hkP hkPi (g := g) hg (argsL := argsL) (rest := rest) (hlen _ hsigM) hstack hdg
  obtain ⟨v, B, X', hpost, hsteps⟩ := hK m meth c ⟨T.setVm vm₁, locs, cells, slots⟩ { g with stack := rest } (.invokevirtual index) mk (Value.ref b :: argsL).toArray X₁ hg hsize hdg hW (X₁.named hnamed) (hpre vm₁ X₁.warmed)
  exact ⟨v, vm₁, B, X₁.warmed, X', hpost, fun target h => hstep₁ _ fun acts => by rw [doInvoke_state]; exact hsteps.trans h⟩
abbrev vx_CVW (R : Room) (s : State) (args : Array Value) (own C : String) (index : Nat) (y : MethodName) (bytes : ByteArray) (maxL : Nat) (ret : Option FieldType) (hh : List (Nat × Nat × Nat × Nat)) (ws : List Cond) (rm : Room) (mc ms n : Nat) : Prop :=
  (rm.cells = mc ∧ rm.slots = ms ∧ rm.frames + 1 ≤ R.frames ∧ 8 + (maxL + 11) + rm.locals ≤ R.locals ∧ (∀ w ∈ ws, ∀ (a' : Array Value) (U : State), s.WarmedH U.vm → w.before a' U = true) ∧ Cond.codeWith y bytes maxL ret hh ∈ ws) ∧
  (Cond.codeWith y bytes maxL ret hh).before args s = true ∧ (Cond.initialized y.cls).before args s = true ∧ (y.cls ≠ "java/lang/invoke/MethodHandle" ∧ y.cls ≠ "java/lang/invoke/VarHandle") ∧
  (∀ sig, parseMethodDescriptor y.desc = some sig → n = sig.parameters.length) ∧ (Cond.methodLink own index y).before args s = true ∧ (Cond.instanceMethod y).before args s = true ∧ (Cond.selects C y y).before args s = true
theorem vx_cwVW {own C : String} {index maxL mc ms : Nat} {y : MethodName} {bytes : ByteArray} {ret : Option FieldType} {hh : List (Nat × Nat × Nat × Nat)} {Ts ws ws' : List Cond} {rm : Room} (n : Nat) (ht : ∀ w ∈ Ts, w.before args s = true) (hT : GoodIn Ts (wsV own index C y ws)) (hw : ws = Cond.codeWith y bytes maxL ret hh :: ws') (hrc : rm.cells = mc) (hrs : rm.slots = ms)
    (hd : y.cls = C ∧ y.cls ≠ "java/lang/invoke/MethodHandle" ∧ y.cls ≠ "java/lang/invoke/VarHandle" ∧ (parseMethodDescriptor y.desc).map (fun d => d.parameters.length) = some n) (hR : rm.frames + 1 ≤ R.frames ∧ 8 + (maxL + 11) + rm.locals ≤ R.locals) :
    vx_CVW R s args own C index y bytes maxL ret hh ws rm mc ms n := by
  obtain ⟨hC, hd⟩ := hd
  subst hC
  have ok : ∀ w ∈ wsV own index y.cls y ws, w.before args s = true := fun w h => ht w (hT w h).1
  have hG : GoodIn Ts ws := fun w h => hT w (by unfold wsV; exact List.mem_append_right _ h)
  have hc : Cond.codeWith y bytes maxL ret hh ∈ ws := by rw [hw]; exact List.mem_cons_self
  refine ⟨⟨hrc, hrs, hR.1, hR.2, pay_in ht hG, hc⟩, ht _ (hG _ hc).1, ok _ (by simp [wsV]), ⟨hd.1, hd.2.1⟩, fun sig h => ?_, ok _ (by simp [wsV]), ok _ (by simp [wsV]), ok _ (by simp [wsV])⟩
  have h2 := hd.2.2
  rw [h] at h2
  exact (Option.some.inj h2).symm
theorem vx_runVW {y : MethodName} {bytes cc : ByteArray} {maxL nL mc ms n index : Nat} {ret : Option FieldType} {hh : List (Nat × Nat × Nat × Nat)} {ws : List Cond} {rm : Room} {Pc : Array Value → State → Prop} {Qc : Array Value → State → Outcome → State → Prop} {free : Addr → Prop} {Ts : List Cond} {own C : String} {b : Addr} {As rest : List Value} {g : JFrame}
    (S : CallFix p m c cc nL s args Ts own) (hM : Met l y ws rm Pc Qc mc ms free) (cw : vx_CVW R s args own C index y bytes maxL ret hh ws rm mc ms n) (hp : PreV s H C b Pc As)
    (hg : g.method = m) (hn : As.length = n) (hsize : g.locals.size = nL) (hstack : g.stack = As.reverse ++ .ref b :: rest) (hW : 2 * g.monitorRoom + (rest.map fun v => v.category).sum ≤ 8) (hdg : decode cc g.pc = .ok (.invokevirtual index, 3)) (hf : cells + mc ≤ R.cells ∧ slots + ms ≤ R.slots) :
    va_Run p l e R s m args below meth c H locs cells slots mc ms g rest (Qc (Value.ref b :: As).toArray) free := by
  obtain ⟨⟨hrc, hrs, hfr, hlo, hws, hcw⟩, hcode, hini, hy, hlen, hl, hin, hse⟩ := cw
  have hK : Back l R p e below s args y 3 8 (PreOf R mc ms Pc) (PostOf Qc mc ms free) := va_backW (hh := hh) (bytes := bytes) (maxL := maxL) (ret := ret) hM hp.1 hrc hrs hfr hlo hws hcw (fun a' U hW => word_at hW (Or.inl (by first | rfl | simp [Cond.onTables, Cond.keeps, Cond.steady])) hini)
  obtain ⟨hx, hb, hml, ho, -⟩ := S
  obtain ⟨-, ⟨cellB, hcB, hoB, hclB⟩, hPc⟩ := hp
  intro T hT X
  obtain ⟨v, vm₁, ⟨U', l2, c2, s2⟩, hW₁, X', ⟨g', mk, t, L, e1, e2, hq, h1, hL, h2, h3⟩, st⟩ := vx_callVW X hx (C := C) (hh := hh) (bytes := bytes) (maxL := maxL) (ret := ret) ho hl hin hse hcode hy hK (by rw [hT]; exact hcB) hoB hclB hg (hsize.trans hml.symm) (argsL := As) (rest := rest) (fun sig h => hn.trans (hlen sig h)) hstack hW (by rw [hb]; exact hdg)
    (fun vm₁ hW₁ => ⟨hf.1, hf.2, hPc (T.setVm vm₁) hT hW₁⟩)
  dsimp only [Pt.U, Pt.locs, Pt.cells, Pt.slots] at X' e1 e2 h1 h2 h3 st
  subst h1; subst h2; subst h3
  exact ⟨v, (T.setVm vm₁).calling g' mk (Value.ref b :: As).toArray, t, U', L, hT, X', hL, e1, e2, hq, st⟩
section
variable {y : MethodName} {bytes cc : ByteArray} {maxL nL mc ms n index : Nat} {ret : Option FieldType} {ws : List Cond} {rm : Room} {Pc : Array Value → State → Prop} {Qc : Array Value → State → Outcome → State → Prop} {XC : String → State → State → Prop} {free : Addr → Prop} {Ts : List Cond} {own C : String} {b : Addr} {As rest : List Value} {g : JFrame}
theorem vx_runVX {hh : List (Nat × Nat × Nat × Nat)} (S : CallFix p m c cc nL s args Ts own) (hM : vx_Met l y ws rm Pc Qc XC mc ms free) (cw : vx_CVW R s args own C index y bytes maxL ret hh ws rm mc ms n) (hp : PreV s H C b Pc As)
    (hg : g.method = m) (hn : As.length = n) (hsize : g.locals.size = nL) (hstack : g.stack = As.reverse ++ .ref b :: rest) (hW : 2 * g.monitorRoom + (rest.map fun v => v.category).sum ≤ 8) (hdg : decode cc g.pc = .ok (.invokevirtual index, 3)) (hf : cells + mc ≤ R.cells ∧ slots + ms ≤ R.slots) :
    vx_Run p l e R s m args below meth c H locs cells slots mc ms g rest (Qc (Value.ref b :: As).toArray) XC free := by
  obtain ⟨⟨hrc, hrs, hfr, hlo, hws, hcw⟩, hcode, hini, hy, hlen, hl, hin, hse⟩ := cw
  have hK : vx_Back l R p e below s args y 3 8 (PreOf R mc ms Pc) (PostOf Qc mc ms free) (vx_Post XC mc ms free) := vx_backW (hh := hh) (bytes := bytes) (maxL := maxL) (ret := ret) hM hp.1 hrc hrs hfr hlo hws hcw (fun a' U hW => word_at hW (Or.inl (by first | rfl | simp [Cond.onTables, Cond.keeps, Cond.steady])) hini)
  obtain ⟨hx, hb, hml, ho, -⟩ := S
  obtain ⟨-, ⟨cellB, hcB, hoB, hclB⟩, hPc⟩ := hp
  intro T hT X
  rcases vx_callVX X hx (C := C) (hh := hh) (bytes := bytes) (maxL := maxL) (ret := ret) ho hl hin hse hcode hy hK (by rw [hT]; exact hcB) hoB hclB hg (hsize.trans hml.symm) (argsL := As) (rest := rest) (fun sig h => hn.trans (hlen sig h)) hstack hW (by rw [hb]; exact hdg)
    (fun vm₁ hW₁ => ⟨hf.1, hf.2, hPc (T.setVm vm₁) hT hW₁⟩) with ⟨v, vm₁, ⟨U', l2, c2, s2⟩, hW₁, X', ⟨g', mk, t, L, e1, e2, hq, h1, hL, h2, h3⟩, st⟩ | ⟨q, vm₁, ⟨U', l2, c2, s2⟩, hW₁, X', ⟨g', mk, t, L, E, ce, e1, e2, hq, hce, hcv, hcl, h1, hL, h2, h3⟩, st⟩
  · dsimp only [Pt.U, Pt.locs, Pt.cells, Pt.slots] at X' e1 e2 h1 h2 h3 st
    subst h1; subst h2; subst h3
    exact Or.inl ⟨v, (T.setVm vm₁).calling g' mk (Value.ref b :: As).toArray, t, U', L, hT, X', hL, e1, e2, hq, st⟩
  · dsimp only [Pt.U, Pt.locs, Pt.cells, Pt.slots] at X' e1 e2 h1 h2 h3 st hcl
    subst h1; subst h2; subst h3
    exact Or.inr ⟨q, (T.setVm vm₁).calling g' mk (Value.ref b :: As).toArray, t, U', L, E, ce, hT, X', hL, e1, e2, hq, hce, hcv, vx_cls hW₁ hcl, st⟩
theorem vx_runSX {hh : List (Nat × Nat × Nat × Nat)} (S : CallFix p m c cc nL s args Ts own) (hM : vx_Met l y ws rm Pc Qc XC mc ms free) (cw : vx_CSW R s args own index y bytes maxL ret hh ws rm mc ms n) (hp : PreS s H Pc As)
    (hg : g.method = m) (hn : As.length = n) (hsize : g.locals.size = nL) (hstack : g.stack = As.reverse ++ rest) (hW : 2 * g.monitorRoom + (rest.map fun v => v.category).sum ≤ 8) (hdg : decode cc g.pc = .ok (.invokestatic index, 3)) (hf : cells + mc ≤ R.cells ∧ slots + ms ≤ R.slots) :
    vx_Run p l e R s m args below meth c H locs cells slots mc ms g rest (Qc As.toArray) XC free := by
  obtain ⟨⟨hrc, hrs, hfr, hlo, hws, hcw⟩, hcode, hini, hy, hlen, hl, hstt⟩ := cw
  have hK : vx_Back l R p e below s args y 3 8 (PreOf R mc ms Pc) (PostOf Qc mc ms free) (vx_Post XC mc ms free) := vx_backW (hh := hh) (bytes := bytes) (maxL := maxL) (ret := ret) hM hp.1 hrc hrs hfr hlo hws hcw (fun a' U hW => word_at hW (Or.inl (by first | rfl | simp [Cond.onTables, Cond.keeps, Cond.steady])) hini)
  obtain ⟨hx, hb, hml, ho, -⟩ := S
  intro T hT X
  rcases vx_callSX X hx (hh := hh) (bytes := bytes) (maxL := maxL) (ret := ret) ho hl hstt hini hcode hy hK hg (hsize.trans hml.symm) (argsL := As) (rest := rest) (fun sig h => hn.trans (hlen sig h)) hstack hW (by rw [hb]; exact hdg)
    (fun vm₁ hW₁ => ⟨hf.1, hf.2, hp.2 (T.setVm vm₁) hT hW₁⟩) with ⟨v, vm₁, ⟨U', l2, c2, s2⟩, hW₁, X', ⟨g', mk, t, L, e1, e2, hq, h1, hL, h2, h3⟩, st⟩ | ⟨q, vm₁, ⟨U', l2, c2, s2⟩, hW₁, X', ⟨g', mk, t, L, E, ce, e1, e2, hq, hce, hcv, hcl, h1, hL, h2, h3⟩, st⟩
  · dsimp only [Pt.U, Pt.locs, Pt.cells, Pt.slots] at X' e1 e2 h1 h2 h3 st
    subst h1; subst h2; subst h3
    exact Or.inl ⟨v, (T.setVm vm₁).calling g' mk As.toArray, t, U', L, hT, X', hL, e1, e2, hq, st⟩
  · dsimp only [Pt.U, Pt.locs, Pt.cells, Pt.slots] at X' e1 e2 h1 h2 h3 st hcl
    subst h1; subst h2; subst h3
    exact Or.inr ⟨q, (T.setVm vm₁).calling g' mk As.toArray, t, U', L, E, ce, hT, X', hL, e1, e2, hq, hce, hcv, vx_cls hW₁ hcl, st⟩
end
end VXH
theorem vx_ofWH {l : Launch} {y : MethodName} {ws ws' : List Cond} {rm : Room} {Pc : Array Value → State → Prop} {Qc : Array Value → State → Outcome → State → Prop} {XC : String → State → State → Prop} {mc ms : Nat} {free : Addr → Prop} {cc : ByteArray} {maxL : Nat} {ret : Option FieldType} {hh : List (Nat × Nat × Nat × Nat)}
    (hy : plainName y.cls = true) (hw : ws = Cond.codeWith y cc maxL ret hh :: ws')
    (body : ∀ p e s m args below meth c s₁, BodyLoose p l y (headSpec ws rm) cc maxL ret e s m args below meth c s₁ → c.maxLocals = maxL → Pc args s →
      W p l e (headSpec ws rm).room s m args below meth c s.heap [] 0 0 (vx_MQ below Qc XC args s mc ms free) (entryFrame m args maxL)) : vx_Met l y ws rm Pc Qc XC mc ms free := by
  refine MetFree.of_bodyS (code := cc) (maxLocals := maxL) (ret := ret) hy ?_ ?_
  · intro args s m h hn
    obtain ⟨m9, meth, c, hn9, h1, h2, h3, h4, -, h5, h6, -⟩ := Cond.codeWith_spec (atoms_spec (ws := ws) h _ (by rw [hw]; exact List.mem_cons_self))
    cases hn.symm.trans hn9
    exact ⟨meth, c, h1, h2, h3, h4, h5, h6⟩
  · intro p e s m args below meth c s₁ B hml hP _
    have hh0 : s₁.heap = s.heap := by rw [B.state]; rfl
    obtain ⟨t, a1, o, b1, b2, b3⟩ := body p e s m args below meth c s₁ B hml hP s₁ hh0 (Stand.of_body B)
    exact ⟨t, o, a1, b1, b2, b3⟩
/-! ===== END ===== -/
end
section
def RX0 : String := "SkyLoom$Angles"
def TX0 : u_T := fun k => match k with
  | _ => ("", "", "", false)
def tyX0 : Nat → FieldType := fun k => match k with
  | _ => .int
abbrev wsX00 : List Cond := u_ws RX0 TX0 0
theorem nmX0 : ∀ a, a < 0 → ∀ b, b < 0 → a ≠ b → (TX0 a).2.1 ≠ (TX0 b).2.1 := by decide +kernel
theorem tyX0_ok : ∀ k, k < 0 → parseFieldDescriptor (TX0 k).2.2.1 = some (tyX0 k) := by decide +kernel
abbrev cX0_sine : ByteArray := prog_2_method_2_code
def yX0_sine : MethodName := ⟨RX0, "sine", "(I)I"⟩
abbrev cX0_cosine : ByteArray := prog_2_method_3_code
def yX0_cosine : MethodName := ⟨RX0, "cosine", "(I)I"⟩
def RX1 : String := "SkyLoom$Ballot"
def TX1 : u_T := fun k => match k with
  | 0 => ("SkyLoom$Ballot", "choice", "[I", true)
  | 1 => ("SkyLoom$Ballot", "tally", "[I", true)
  | _ => ("SkyLoom$Ballot", "given", "[I", true)
def tyX1 : Nat → FieldType := fun k => match k with
  | 0 => .array .int
  | 1 => .array .int
  | _ => .array .int
abbrev wsX10 : List Cond := u_ws RX1 TX1 3
theorem nmX1 : ∀ a, a < 3 → ∀ b, b < 3 → a ≠ b → (TX1 a).2.1 ≠ (TX1 b).2.1 := by decide +kernel
theorem tyX1_ok : ∀ k, k < 3 → parseFieldDescriptor (TX1 k).2.2.1 = some (tyX1 k) := by decide +kernel
abbrev cX1_init : ByteArray := prog_3_method_1_code
def yX1_init : MethodName := ⟨RX1, "<init>", "()V"⟩
abbrev cX1_replace : ByteArray := prog_3_method_2_code
def yX1_replace : MethodName := ⟨RX1, "replace", "(III)I"⟩
abbrev cX1_count : ByteArray := prog_3_method_3_code
def yX1_count : MethodName := ⟨RX1, "count", "(III)V"⟩
abbrev cX1_giveNames : ByteArray := prog_3_method_4_code
def yX1_giveNames : MethodName := ⟨RX1, "giveNames", "()V"⟩
abbrev cX1_giveName : ByteArray := prog_3_method_5_code
def yX1_giveName : MethodName := ⟨RX1, "giveName", "(III)I"⟩
def RX2 : String := "SkyLoom$Chart"
def TX2 : u_T := fun k => match k with
  | 0 => ("SkyLoom$Chart", "starCount", "I", false)
  | 1 => ("SkyLoom$Chart", "across", "[I", true)
  | _ => ("SkyLoom$Chart", "up", "[I", true)
def tyX2 : Nat → FieldType := fun k => match k with
  | 0 => .int
  | 1 => .array .int
  | _ => .array .int
abbrev wsX20 : List Cond := u_ws RX2 TX2 3
theorem nmX2 : ∀ a, a < 3 → ∀ b, b < 3 → a ≠ b → (TX2 a).2.1 ≠ (TX2 b).2.1 := by decide +kernel
theorem tyX2_ok : ∀ k, k < 3 → parseFieldDescriptor (TX2 k).2.2.1 = some (tyX2 k) := by decide +kernel
abbrev cX2_init : ByteArray := prog_4_method_1_code
def yX2_init : MethodName := ⟨RX2, "<init>", "()V"⟩
abbrev cX2_append : ByteArray := prog_4_method_2_code
def yX2_append : MethodName := ⟨RX2, "append", "(II)I"⟩
abbrev cX2_move : ByteArray := prog_4_method_3_code
def yX2_move : MethodName := ⟨RX2, "move", "(III)V"⟩
abbrev cX2_heightAt : ByteArray := prog_4_method_4_code
def yX2_heightAt : MethodName := ⟨RX2, "heightAt", "(III)I"⟩
abbrev cX2_meet : ByteArray := prog_4_method_5_code
def yX2_meet : MethodName := ⟨RX2, "meet", "(IIII)Z"⟩
abbrev cX2_spansOverlap : ByteArray := prog_4_method_6_code
def yX2_spansOverlap : MethodName := ⟨RX2, "spansOverlap", "(IIII)Z"⟩
abbrev cX2_straddles : ByteArray := prog_4_method_7_code
def yX2_straddles : MethodName := ⟨RX2, "straddles", "(IIII)Z"⟩
abbrev cX2_sideOf : ByteArray := prog_4_method_8_code
def yX2_sideOf : MethodName := ⟨RX2, "sideOf", "(III)I"⟩
def RX3 : String := "SkyLoom$History"
def TX3 : u_T := fun k => match k with
  | 0 => ("SkyLoom$History", "next", "I", false)
  | 1 => ("SkyLoom$History", "kept", "I", false)
  | 2 => ("SkyLoom$History", "kind", "[I", true)
  | 3 => ("SkyLoom$History", "subject", "[I", true)
  | 4 => ("SkyLoom$History", "line", "[I", true)
  | 5 => ("SkyLoom$History", "first", "[I", true)
  | _ => ("SkyLoom$History", "second", "[I", true)
def tyX3 : Nat → FieldType := fun k => match k with
  | 0 => .int
  | 1 => .int
  | 2 => .array .int
  | 3 => .array .int
  | 4 => .array .int
  | 5 => .array .int
  | _ => .array .int
abbrev wsX30 : List Cond := u_ws RX3 TX3 7
theorem nmX3 : ∀ a, a < 7 → ∀ b, b < 7 → a ≠ b → (TX3 a).2.1 ≠ (TX3 b).2.1 := by decide +kernel
theorem tyX3_ok : ∀ k, k < 7 → parseFieldDescriptor (TX3 k).2.2.1 = some (tyX3 k) := by decide +kernel
abbrev cX3_init : ByteArray := prog_5_method_1_code
def yX3_init : MethodName := ⟨RX3, "<init>", "()V"⟩
abbrev cX3_keep : ByteArray := prog_5_method_2_code
def yX3_keep : MethodName := ⟨RX3, "keep", "(IIIII)V"⟩
abbrev cX3_stepBack : ByteArray := prog_5_method_3_code
def yX3_stepBack : MethodName := ⟨RX3, "stepBack", "()V"⟩
def RX4 : String := "SkyLoom$Programme"
def TX4 : u_T := fun k => match k with
  | 0 => ("SkyLoom$Programme", "showCount", "I", false)
  | 1 => ("SkyLoom$Programme", "figure", "[I", true)
  | 2 => ("SkyLoom$Programme", "name", "[I", true)
  | 3 => ("SkyLoom$Programme", "latitude", "[I", true)
  | _ => ("SkyLoom$Programme", "skyTurn", "[I", true)
def tyX4 : Nat → FieldType := fun k => match k with
  | 0 => .int
  | 1 => .array .int
  | 2 => .array .int
  | 3 => .array .int
  | _ => .array .int
abbrev wsX40 : List Cond := u_ws RX4 TX4 5
theorem nmX4 : ∀ a, a < 5 → ∀ b, b < 5 → a ≠ b → (TX4 a).2.1 ≠ (TX4 b).2.1 := by decide +kernel
theorem tyX4_ok : ∀ k, k < 5 → parseFieldDescriptor (TX4 k).2.2.1 = some (tyX4 k) := by decide +kernel
abbrev cX4_init : ByteArray := prog_6_method_1_code
def yX4_init : MethodName := ⟨RX4, "<init>", "()V"⟩
abbrev cX4_append : ByteArray := prog_6_method_2_code
def yX4_append : MethodName := ⟨RX4, "append", "(IIII)I"⟩
def RX5 : String := "SkyLoom$Web"
def TX5 : u_T := fun k => match k with
  | 0 => ("SkyLoom$Web", "figureCount", "I", false)
  | 1 => ("SkyLoom$Web", "lineCount", "[I", true)
  | 2 => ("SkyLoom$Web", "ends", "[I", true)
  | _ => ("SkyLoom$Web", "otherEnds", "[I", true)
def tyX5 : Nat → FieldType := fun k => match k with
  | 0 => .int
  | 1 => .array .int
  | 2 => .array .int
  | _ => .array .int
abbrev wsX50 : List Cond := u_ws RX5 TX5 4
theorem nmX5 : ∀ a, a < 4 → ∀ b, b < 4 → a ≠ b → (TX5 a).2.1 ≠ (TX5 b).2.1 := by decide +kernel
theorem tyX5_ok : ∀ k, k < 4 → parseFieldDescriptor (TX5 k).2.2.1 = some (tyX5 k) := by decide +kernel
abbrev cX5_init : ByteArray := prog_7_method_1_code
def yX5_init : MethodName := ⟨RX5, "<init>", "()V"⟩
abbrev cX5_place : ByteArray := prog_7_method_2_code
def yX5_place : MethodName := ⟨RX5, "place", "(II)I"⟩
abbrev cX5_appendFigure : ByteArray := prog_7_method_3_code
def yX5_appendFigure : MethodName := ⟨RX5, "appendFigure", "()I"⟩
abbrev cX5_joins : ByteArray := prog_7_method_4_code
def yX5_joins : MethodName := ⟨RX5, "joins", "(III)Z"⟩
abbrev cX5_ownerOf : ByteArray := prog_7_method_5_code
def yX5_ownerOf : MethodName := ⟨RX5, "ownerOf", "(I)I"⟩
abbrev cX5_isOfAnother : ByteArray := prog_7_method_6_code
def yX5_isOfAnother : MethodName := ⟨RX5, "isOfAnother", "(II)Z"⟩
abbrev cX5_insert : ByteArray := prog_7_method_7_code
def yX5_insert : MethodName := ⟨RX5, "insert", "(IIII)V"⟩
abbrev cX5_remove : ByteArray := prog_7_method_8_code
def yX5_remove : MethodName := ⟨RX5, "remove", "(II)V"⟩
abbrev cX5_hasStar : ByteArray := prog_7_method_9_code
def yX5_hasStar : MethodName := ⟨RX5, "hasStar", "(II)Z"⟩
def RX6 : String := "SkyLoom"
def TX6 : u_T := fun k => match k with
  | 0 => ("SkyLoom", "chart", "LSkyLoom$Chart;", true)
  | 1 => ("SkyLoom", "web", "LSkyLoom$Web;", true)
  | 2 => ("SkyLoom", "ballot", "LSkyLoom$Ballot;", true)
  | 3 => ("SkyLoom", "programme", "LSkyLoom$Programme;", true)
  | _ => ("SkyLoom", "history", "LSkyLoom$History;", true)
def tyX6 : Nat → FieldType := fun k => match k with
  | 0 => .object "SkyLoom$Chart"
  | 1 => .object "SkyLoom$Web"
  | 2 => .object "SkyLoom$Ballot"
  | 3 => .object "SkyLoom$Programme"
  | _ => .object "SkyLoom$History"
abbrev wsX60 : List Cond := u_ws RX6 TX6 5
theorem nmX6 : ∀ a, a < 5 → ∀ b, b < 5 → a ≠ b → (TX6 a).2.1 ≠ (TX6 b).2.1 := by decide +kernel
theorem tyX6_ok : ∀ k, k < 5 → parseFieldDescriptor (TX6 k).2.2.1 = some (tyX6 k) := by decide +kernel
abbrev cX6_init : ByteArray := prog_1_method_1_code
def yX6_init : MethodName := ⟨RX6, "<init>", "()V"⟩
abbrev cX6_addStar : ByteArray := prog_1_method_2_code
def yX6_addStar : MethodName := ⟨RX6, "addStar", "(II)I"⟩
abbrev cX6_correct : ByteArray := prog_1_method_3_code
def yX6_correct : MethodName := ⟨RX6, "correct", "(III)I"⟩
abbrev cX6_addFigure : ByteArray := prog_1_method_4_code
def yX6_addFigure : MethodName := ⟨RX6, "addFigure", "()I"⟩
abbrev cX6_draw : ByteArray := prog_1_method_5_code
def yX6_draw : MethodName := ⟨RX6, "draw", "(III)I"⟩
abbrev cX6_erase : ByteArray := prog_1_method_6_code
def yX6_erase : MethodName := ⟨RX6, "erase", "(II)I"⟩
abbrev cX6_undo : ByteArray := prog_1_method_7_code
def yX6_undo : MethodName := ⟨RX6, "undo", "()I"⟩
abbrev cX6_stars : ByteArray := prog_1_method_8_code
def yX6_stars : MethodName := ⟨RX6, "stars", "()I"⟩
abbrev cX6_figures : ByteArray := prog_1_method_9_code
def yX6_figures : MethodName := ⟨RX6, "figures", "()I"⟩
abbrev cX6_lines : ByteArray := prog_1_method_10_code
def yX6_lines : MethodName := ⟨RX6, "lines", "(I)I"⟩
abbrev cX6_placeOf : ByteArray := prog_1_method_11_code
def yX6_placeOf : MethodName := ⟨RX6, "placeOf", "(I)I"⟩
abbrev cX6_figureOf : ByteArray := prog_1_method_12_code
def yX6_figureOf : MethodName := ⟨RX6, "figureOf", "(I)I"⟩
abbrev cX6_crossings : ByteArray := prog_1_method_13_code
def yX6_crossings : MethodName := ⟨RX6, "crossings", "(II)I"⟩
abbrev cX6_vote : ByteArray := prog_1_method_14_code
def yX6_vote : MethodName := ⟨RX6, "vote", "(III)I"⟩
abbrev cX6_votes : ByteArray := prog_1_method_15_code
def yX6_votes : MethodName := ⟨RX6, "votes", "(II)I"⟩
abbrev cX6_nameOf : ByteArray := prog_1_method_16_code
def yX6_nameOf : MethodName := ⟨RX6, "nameOf", "(I)I"⟩
abbrev cX6_height : ByteArray := prog_1_method_17_code
def yX6_height : MethodName := ⟨RX6, "height", "(IIII)I"⟩
abbrev cX6_isUp : ByteArray := prog_1_method_18_code
def yX6_isUp : MethodName := ⟨RX6, "isUp", "(IIII)Z"⟩
abbrev cX6_hours : ByteArray := prog_1_method_19_code
def yX6_hours : MethodName := ⟨RX6, "hours", "(III)I"⟩
abbrev cX6_hoursByStars : ByteArray := prog_1_method_20_code
def yX6_hoursByStars : MethodName := ⟨RX6, "hoursByStars", "(III)I"⟩
abbrev cX6_bestHour : ByteArray := prog_1_method_21_code
def yX6_bestHour : MethodName := ⟨RX6, "bestHour", "(III)I"⟩
abbrev cX6_season : ByteArray := prog_1_method_22_code
def yX6_season : MethodName := ⟨RX6, "season", "(III)I"⟩
abbrev cX6_plan : ByteArray := prog_1_method_23_code
def yX6_plan : MethodName := ⟨RX6, "plan", "(IIII)I"⟩
abbrev cX6_isWrong : ByteArray := prog_1_method_24_code
def yX6_isWrong : MethodName := ⟨RX6, "isWrong", "(I)Z"⟩
abbrev cX6_wrong : ByteArray := prog_1_method_25_code
def yX6_wrong : MethodName := ⟨RX6, "wrong", "()I"⟩
abbrev cX6_needStar : ByteArray := prog_1_method_26_code
def yX6_needStar : MethodName := ⟨RX6, "needStar", "(I)V"⟩
abbrev cX6_needFigure : ByteArray := prog_1_method_27_code
def yX6_needFigure : MethodName := ⟨RX6, "needFigure", "(I)V"⟩
abbrev cX6_needPlace : ByteArray := prog_1_method_28_code
def yX6_needPlace : MethodName := ⟨RX6, "needPlace", "(II)V"⟩
abbrev cX6_needName : ByteArray := prog_1_method_29_code
def yX6_needName : MethodName := ⟨RX6, "needName", "(I)V"⟩
abbrev cX6_needLatitude : ByteArray := prog_1_method_30_code
def yX6_needLatitude : MethodName := ⟨RX6, "needLatitude", "(I)V"⟩
abbrev cX6_needDay : ByteArray := prog_1_method_31_code
def yX6_needDay : MethodName := ⟨RX6, "needDay", "(I)V"⟩
abbrev cX6_needHour : ByteArray := prog_1_method_32_code
def yX6_needHour : MethodName := ⟨RX6, "needHour", "(I)V"⟩
abbrev cX6_takeBack : ByteArray := prog_1_method_33_code
def yX6_takeBack : MethodName := ⟨RX6, "takeBack", "(I)V"⟩
abbrev cX6_linesCross : ByteArray := prog_1_method_34_code
def yX6_linesCross : MethodName := ⟨RX6, "linesCross", "(II)Z"⟩
abbrev cX6_skyTurn : ByteArray := prog_1_method_35_code
def yX6_skyTurn : MethodName := ⟨RX6, "skyTurn", "(II)I"⟩
abbrev cX6_figureIsUp : ByteArray := prog_1_method_36_code
def yX6_figureIsUp : MethodName := ⟨RX6, "figureIsUp", "(III)Z"⟩
abbrev cX6_lowestHeight : ByteArray := prog_1_method_37_code
def yX6_lowestHeight : MethodName := ⟨RX6, "lowestHeight", "(III)I"⟩
abbrev cX6_hoursOfStar : ByteArray := prog_1_method_38_code
def yX6_hoursOfStar : MethodName := ⟨RX6, "hoursOfStar", "(III)I"⟩
abbrev cX6_showIsWrong : ByteArray := prog_1_method_39_code
def yX6_showIsWrong : MethodName := ⟨RX6, "showIsWrong", "(I)Z"⟩
abbrev cX6_countWrongShows : ByteArray := prog_1_method_40_code
def yX6_countWrongShows : MethodName := ⟨RX6, "countWrongShows", "()I"⟩
def RX7 : String := "SkyLoomModel"
def TX7 : u_T := fun k => match k with
  | 0 => ("SkyLoomModel", "thrown", "I", false)
  | 1 => ("SkyLoomModel", "across", "[I", true)
  | 2 => ("SkyLoomModel", "up", "[I", true)
  | 3 => ("SkyLoomModel", "stars", "I", false)
  | 4 => ("SkyLoomModel", "one", "[I", true)
  | 5 => ("SkyLoomModel", "other", "[I", true)
  | 6 => ("SkyLoomModel", "lines", "[I", true)
  | 7 => ("SkyLoomModel", "figures", "I", false)
  | 8 => ("SkyLoomModel", "vote", "[I", true)
  | 9 => ("SkyLoomModel", "name", "[I", true)
  | 10 => ("SkyLoomModel", "show", "[I", true)
  | 11 => ("SkyLoomModel", "shows", "I", false)
  | 12 => ("SkyLoomModel", "done", "[I", true)
  | _ => ("SkyLoomModel", "dones", "I", false)
def tyX7 : Nat → FieldType := fun k => match k with
  | 0 => .int
  | 1 => .array .int
  | 2 => .array .int
  | 3 => .int
  | 4 => .array .int
  | 5 => .array .int
  | 6 => .array .int
  | 7 => .int
  | 8 => .array .int
  | 9 => .array .int
  | 10 => .array .int
  | 11 => .int
  | 12 => .array .int
  | _ => .int
abbrev wsX70 : List Cond := u_ws RX7 TX7 14
theorem nmX7 : ∀ a, a < 14 → ∀ b, b < 14 → a ≠ b → (TX7 a).2.1 ≠ (TX7 b).2.1 := by decide +kernel
theorem tyX7_ok : ∀ k, k < 14 → parseFieldDescriptor (TX7 k).2.2.1 = some (tyX7 k) := by decide +kernel
abbrev cX7_init : ByteArray := prog_9_method_1_code
def yX7_init : MethodName := ⟨RX7, "<init>", "()V"⟩
abbrev cX7_thrown : ByteArray := prog_9_method_2_code
def yX7_thrown : MethodName := ⟨RX7, "thrown", "()I"⟩
abbrev cX7_isFine : ByteArray := prog_9_method_3_code
def yX7_isFine : MethodName := ⟨RX7, "isFine", "(I)Z"⟩
abbrev cX7_isIn : ByteArray := prog_9_method_4_code
def yX7_isIn : MethodName := ⟨RX7, "isIn", "(III)Z"⟩
abbrev cX7_isStar : ByteArray := prog_9_method_5_code
def yX7_isStar : MethodName := ⟨RX7, "isStar", "(I)Z"⟩
abbrev cX7_isFigure : ByteArray := prog_9_method_6_code
def yX7_isFigure : MethodName := ⟨RX7, "isFigure", "(I)Z"⟩
abbrev cX7_isPlace : ByteArray := prog_9_method_7_code
def yX7_isPlace : MethodName := ⟨RX7, "isPlace", "(II)Z"⟩
abbrev cX7_addStar : ByteArray := prog_9_method_8_code
def yX7_addStar : MethodName := ⟨RX7, "addStar", "(II)I"⟩
abbrev cX7_notes : ByteArray := prog_9_method_9_code
def yX7_notes : MethodName := ⟨RX7, "notes", "(IIIII)V"⟩
abbrev cX7_correct : ByteArray := prog_9_method_10_code
def yX7_correct : MethodName := ⟨RX7, "correct", "(III)I"⟩
abbrev cX7_addFigure : ByteArray := prog_9_method_11_code
def yX7_addFigure : MethodName := ⟨RX7, "addFigure", "()I"⟩
abbrev cX7_isOf : ByteArray := prog_9_method_12_code
def yX7_isOf : MethodName := ⟨RX7, "isOf", "(II)Z"⟩
abbrev cX7_figureNow : ByteArray := prog_9_method_13_code
def yX7_figureNow : MethodName := ⟨RX7, "figureNow", "(I)I"⟩
abbrev cX7_isFree : ByteArray := prog_9_method_14_code
def yX7_isFree : MethodName := ⟨RX7, "isFree", "(II)Z"⟩
abbrev cX7_hasLine : ByteArray := prog_9_method_15_code
def yX7_hasLine : MethodName := ⟨RX7, "hasLine", "(III)Z"⟩
abbrev cX7_puts : ByteArray := prog_9_method_16_code
def yX7_puts : MethodName := ⟨RX7, "puts", "(IIII)V"⟩
abbrev cX7_takes : ByteArray := prog_9_method_17_code
def yX7_takes : MethodName := ⟨RX7, "takes", "(II)V"⟩
abbrev cX7_draw : ByteArray := prog_9_method_18_code
def yX7_draw : MethodName := ⟨RX7, "draw", "(III)I"⟩
abbrev cX7_erase : ByteArray := prog_9_method_19_code
def yX7_erase : MethodName := ⟨RX7, "erase", "(II)I"⟩
abbrev cX7_undo : ByteArray := prog_9_method_20_code
def yX7_undo : MethodName := ⟨RX7, "undo", "()I"⟩
abbrev cX7_stars : ByteArray := prog_9_method_21_code
def yX7_stars : MethodName := ⟨RX7, "stars", "()I"⟩
abbrev cX7_figures : ByteArray := prog_9_method_22_code
def yX7_figures : MethodName := ⟨RX7, "figures", "()I"⟩
abbrev cX7_lines : ByteArray := prog_9_method_23_code
def yX7_lines : MethodName := ⟨RX7, "lines", "(I)I"⟩
abbrev cX7_placeOf : ByteArray := prog_9_method_24_code
def yX7_placeOf : MethodName := ⟨RX7, "placeOf", "(I)I"⟩
abbrev cX7_figureOf : ByteArray := prog_9_method_25_code
def yX7_figureOf : MethodName := ⟨RX7, "figureOf", "(I)I"⟩
abbrev cX7_side : ByteArray := prog_9_method_26_code
def yX7_side : MethodName := ⟨RX7, "side", "(III)I"⟩
abbrev cX7_meet : ByteArray := prog_9_method_27_code
def yX7_meet : MethodName := ⟨RX7, "meet", "(IIII)Z"⟩
abbrev cX7_cross : ByteArray := prog_9_method_28_code
def yX7_cross : MethodName := ⟨RX7, "cross", "(II)Z"⟩
abbrev cX7_crossings : ByteArray := prog_9_method_29_code
def yX7_crossings : MethodName := ⟨RX7, "crossings", "(II)I"⟩
abbrev cX7_vote : ByteArray := prog_9_method_30_code
def yX7_vote : MethodName := ⟨RX7, "vote", "(III)I"⟩
abbrev cX7_votesNow : ByteArray := prog_9_method_31_code
def yX7_votesNow : MethodName := ⟨RX7, "votesNow", "(II)I"⟩
abbrev cX7_votes : ByteArray := prog_9_method_32_code
def yX7_votes : MethodName := ⟨RX7, "votes", "(II)I"⟩
abbrev cX7_gives : ByteArray := prog_9_method_33_code
def yX7_gives : MethodName := ⟨RX7, "gives", "()V"⟩
abbrev cX7_nameNow : ByteArray := prog_9_method_34_code
def yX7_nameNow : MethodName := ⟨RX7, "nameNow", "(I)I"⟩
abbrev cX7_nameOf : ByteArray := prog_9_method_35_code
def yX7_nameOf : MethodName := ⟨RX7, "nameOf", "(I)I"⟩
abbrev cX7_quotient : ByteArray := prog_9_method_36_code
def yX7_quotient : MethodName := ⟨RX7, "quotient", "(II)I"⟩
abbrev cX7_sine : ByteArray := prog_9_method_37_code
def yX7_sine : MethodName := ⟨RX7, "sine", "(I)I"⟩
abbrev cX7_cosine : ByteArray := prog_9_method_38_code
def yX7_cosine : MethodName := ⟨RX7, "cosine", "(I)I"⟩
abbrev cX7_heightNow : ByteArray := prog_9_method_39_code
def yX7_heightNow : MethodName := ⟨RX7, "heightNow", "(IIII)I"⟩
abbrev cX7_isTime : ByteArray := prog_9_method_40_code
def yX7_isTime : MethodName := ⟨RX7, "isTime", "(III)Z"⟩
abbrev cX7_height : ByteArray := prog_9_method_41_code
def yX7_height : MethodName := ⟨RX7, "height", "(IIII)I"⟩
abbrev cX7_lowest : ByteArray := prog_9_method_42_code
def yX7_lowest : MethodName := ⟨RX7, "lowest", "(IIII)I"⟩
abbrev cX7_isUpNow : ByteArray := prog_9_method_43_code
def yX7_isUpNow : MethodName := ⟨RX7, "isUpNow", "(IIII)Z"⟩
abbrev cX7_isUp : ByteArray := prog_9_method_44_code
def yX7_isUp : MethodName := ⟨RX7, "isUp", "(IIII)Z"⟩
abbrev cX7_hoursNow : ByteArray := prog_9_method_45_code
def yX7_hoursNow : MethodName := ⟨RX7, "hoursNow", "(III)I"⟩
abbrev cX7_hours : ByteArray := prog_9_method_46_code
def yX7_hours : MethodName := ⟨RX7, "hours", "(III)I"⟩
abbrev cX7_hoursByStars : ByteArray := prog_9_method_47_code
def yX7_hoursByStars : MethodName := ⟨RX7, "hoursByStars", "(III)I"⟩
abbrev cX7_bestHour : ByteArray := prog_9_method_48_code
def yX7_bestHour : MethodName := ⟨RX7, "bestHour", "(III)I"⟩
abbrev cX7_season : ByteArray := prog_9_method_49_code
def yX7_season : MethodName := ⟨RX7, "season", "(III)I"⟩
abbrev cX7_plan : ByteArray := prog_9_method_50_code
def yX7_plan : MethodName := ⟨RX7, "plan", "(IIII)I"⟩
abbrev cX7_isWrongNow : ByteArray := prog_9_method_51_code
def yX7_isWrongNow : MethodName := ⟨RX7, "isWrongNow", "(I)Z"⟩
abbrev cX7_wrongNow : ByteArray := prog_9_method_52_code
def yX7_wrongNow : MethodName := ⟨RX7, "wrongNow", "()I"⟩
abbrev cX7_isWrong : ByteArray := prog_9_method_53_code
def yX7_isWrong : MethodName := ⟨RX7, "isWrong", "(I)Z"⟩
abbrev cX7_wrong : ByteArray := prog_9_method_54_code
def yX7_wrong : MethodName := ⟨RX7, "wrong", "()I"⟩
def RJx145de : String := "java/io/Serializable"
def TJx145de : u_T := fun k => match k with
  | _ => ("", "", "", false)
def tyJx145de : Nat → FieldType := fun k => match k with
  | _ => .int
abbrev wsJx145de0 : List Cond := u_ws RJx145de TJx145de 0
theorem nmJx145de : ∀ a, a < 0 → ∀ b, b < 0 → a ≠ b → (TJx145de a).2.1 ≠ (TJx145de b).2.1 := by decide +kernel
theorem tyJx145de_ok : ∀ k, k < 0 → parseFieldDescriptor (TJx145de k).2.2.1 = some (tyJx145de k) := by decide +kernel
def RJ6 : String := "java/lang/Integer"
def TJ6 : u_T := fun k => match k with
  | _ => ("", "", "", false)
def tyJ6 : Nat → FieldType := fun k => match k with
  | _ => .int
abbrev wsJ60 : List Cond := u_ws RJ6 TJ6 0
theorem nmJ6 : ∀ a, a < 0 → ∀ b, b < 0 → a ≠ b → (TJ6 a).2.1 ≠ (TJ6 b).2.1 := by decide +kernel
theorem tyJ6_ok : ∀ k, k < 0 → parseFieldDescriptor (TJ6 k).2.2.1 = some (tyJ6 k) := by decide +kernel
abbrev cJ6_compare_7cf53 : ByteArray := prog_14_method_40_code
def yJ6_compare_7cf53 : MethodName := ⟨RJ6, "compare", "(II)I"⟩
def RJ9 : String := "java/lang/Math"
def TJ9 : u_T := fun k => match k with
  | _ => ("", "", "", false)
def tyJ9 : Nat → FieldType := fun k => match k with
  | _ => .int
abbrev wsJ90 : List Cond := u_ws RJ9 TJ9 0
theorem nmJ9 : ∀ a, a < 0 → ∀ b, b < 0 → a ≠ b → (TJ9 a).2.1 ≠ (TJ9 b).2.1 := by decide +kernel
theorem tyJ9_ok : ∀ k, k < 0 → parseFieldDescriptor (TJ9 k).2.2.1 = some (tyJ9 k) := by decide +kernel
abbrev cJ9_floorDiv_7cf53 : ByteArray := prog_15_method_47_code
def yJ9_floorDiv_7cf53 : MethodName := ⟨RJ9, "floorDiv", "(II)I"⟩
abbrev cJ9_floorMod_7cf53 : ByteArray := prog_15_method_50_code
def yJ9_floorMod_7cf53 : MethodName := ⟨RJ9, "floorMod", "(II)I"⟩
abbrev cJ9_max_7cf53 : ByteArray := prog_15_method_65_code
def yJ9_max_7cf53 : MethodName := ⟨RJ9, "max", "(II)I"⟩
abbrev cJ9_min_7cf53 : ByteArray := prog_15_method_69_code
def yJ9_min_7cf53 : MethodName := ⟨RJ9, "min", "(II)I"⟩
def RJ0 : String := "java/lang/String"
def TJ0 : u_T := fun k => match k with
  | _ => ("", "", "", false)
def tyJ0 : Nat → FieldType := fun k => match k with
  | _ => .int
abbrev wsJ00 : List Cond := u_ws RJ0 TJ0 0
theorem nmJ0 : ∀ a, a < 0 → ∀ b, b < 0 → a ≠ b → (TJ0 a).2.1 ≠ (TJ0 b).2.1 := by decide +kernel
theorem tyJ0_ok : ∀ k, k < 0 → parseFieldDescriptor (TJ0 k).2.2.1 = some (tyJ0 k) := by decide +kernel
def RJ7 : String := "java/util/Arrays"
def TJ7 : u_T := fun k => match k with
  | _ => ("", "", "", false)
def tyJ7 : Nat → FieldType := fun k => match k with
  | _ => .int
abbrev wsJ70 : List Cond := u_ws RJ7 TJ7 0
theorem nmJ7 : ∀ a, a < 0 → ∀ b, b < 0 → a ≠ b → (TJ7 a).2.1 ≠ (TJ7 b).2.1 := by decide +kernel
theorem tyJ7_ok : ∀ k, k < 0 → parseFieldDescriptor (TJ7 k).2.2.1 = some (tyJ7 k) := by decide +kernel
abbrev cJ7_fill_53178 : ByteArray := prog_19_method_103_code
def yJ7_fill_53178 : MethodName := ⟨RJ7, "fill", "([II)V"⟩
def RL : String := "SkyLoomLaw"
abbrev cL_addStar : ByteArray := method_3_code
def yL_addStar : MethodName := ⟨RL, "addStar", "(LSkyLoom;II[J)I"⟩
abbrev cL_correct : ByteArray := method_4_code
def yL_correct : MethodName := ⟨RL, "correct", "(LSkyLoom;III[J)I"⟩
abbrev cL_addFigure : ByteArray := method_5_code
def yL_addFigure : MethodName := ⟨RL, "addFigure", "(LSkyLoom;[J)I"⟩
abbrev cL_draw : ByteArray := method_6_code
def yL_draw : MethodName := ⟨RL, "draw", "(LSkyLoom;III[J)I"⟩
abbrev cL_erase : ByteArray := method_7_code
def yL_erase : MethodName := ⟨RL, "erase", "(LSkyLoom;II[J)I"⟩
abbrev cL_undo : ByteArray := method_8_code
def yL_undo : MethodName := ⟨RL, "undo", "(LSkyLoom;[J)I"⟩
abbrev cL_lines : ByteArray := method_9_code
def yL_lines : MethodName := ⟨RL, "lines", "(LSkyLoom;I[J)I"⟩
abbrev cL_placeOf : ByteArray := method_10_code
def yL_placeOf : MethodName := ⟨RL, "placeOf", "(LSkyLoom;I[J)I"⟩
abbrev cL_figureOf : ByteArray := method_11_code
def yL_figureOf : MethodName := ⟨RL, "figureOf", "(LSkyLoom;I[J)I"⟩
abbrev cL_crossings : ByteArray := method_12_code
def yL_crossings : MethodName := ⟨RL, "crossings", "(LSkyLoom;II[J)I"⟩
abbrev cL_vote : ByteArray := method_13_code
def yL_vote : MethodName := ⟨RL, "vote", "(LSkyLoom;III[J)I"⟩
abbrev cL_votes : ByteArray := method_14_code
def yL_votes : MethodName := ⟨RL, "votes", "(LSkyLoom;II[J)I"⟩
abbrev cL_nameOf : ByteArray := method_15_code
def yL_nameOf : MethodName := ⟨RL, "nameOf", "(LSkyLoom;I[J)I"⟩
abbrev cL_height : ByteArray := method_16_code
def yL_height : MethodName := ⟨RL, "height", "(LSkyLoom;IIII[J)I"⟩
abbrev cL_isUp : ByteArray := method_17_code
def yL_isUp : MethodName := ⟨RL, "isUp", "(LSkyLoom;IIII[J)I"⟩
abbrev cL_hours : ByteArray := method_18_code
def yL_hours : MethodName := ⟨RL, "hours", "(LSkyLoom;III[J)I"⟩
abbrev cL_hoursByStars : ByteArray := method_19_code
def yL_hoursByStars : MethodName := ⟨RL, "hoursByStars", "(LSkyLoom;III[J)I"⟩
abbrev cL_bestHour : ByteArray := method_20_code
def yL_bestHour : MethodName := ⟨RL, "bestHour", "(LSkyLoom;III[J)I"⟩
abbrev cL_season : ByteArray := method_21_code
def yL_season : MethodName := ⟨RL, "season", "(LSkyLoom;III[J)I"⟩
abbrev cL_plan : ByteArray := method_22_code
def yL_plan : MethodName := ⟨RL, "plan", "(LSkyLoom;IIII[J)I"⟩
abbrev cL_isWrong : ByteArray := method_23_code
def yL_isWrong : MethodName := ⟨RL, "isWrong", "(LSkyLoom;I[J)I"⟩
abbrev cL_law : ByteArray := code
def yL_law : MethodName := ⟨RL, "law", "([I)Z"⟩
abbrev vwCl : List vw_C := [(RX1, TX1, 3), (RX2, TX2, 3), (RX3, TX3, 7), (RX4, TX4, 5), (RX5, TX5, 4), (RX6, TX6, 5), (RX7, TX7, 14)]
end
section
theorem dX0_sine_0 : decode cX0_sine 0 = .ok (.iload_n 0, 1) := by decide +kernel
theorem dX0_sine_1 : decode cX0_sine 1 = .ok (.sipush 360, 3) := by decide +kernel
theorem dX0_sine_4 : decode cX0_sine 4 = .ok (.invokestatic 9, 3) := by decide +kernel
theorem dX0_sine_7 : decode cX0_sine 7 = .ok (.istore_n 1, 1) := by decide +kernel
theorem dX0_sine_8 : decode cX0_sine 8 = .ok (.iload_n 1, 1) := by decide +kernel
theorem dX0_sine_9 : decode cX0_sine 9 = .ok (.sipush 180, 3) := by decide +kernel
theorem dX0_sine_12 : decode cX0_sine 12 = .ok (.irem, 1) := by decide +kernel
theorem dX0_sine_13 : decode cX0_sine 13 = .ok (.istore_n 2, 1) := by decide +kernel
theorem dX0_sine_14 : decode cX0_sine 14 = .ok (.iload_n 2, 1) := by decide +kernel
theorem dX0_sine_15 : decode cX0_sine 15 = .ok (.sipush 180, 3) := by decide +kernel
theorem dX0_sine_18 : decode cX0_sine 18 = .ok (.iload_n 2, 1) := by decide +kernel
theorem dX0_sine_19 : decode cX0_sine 19 = .ok (.isub, 1) := by decide +kernel
theorem dX0_sine_20 : decode cX0_sine 20 = .ok (.imul, 1) := by decide +kernel
theorem dX0_sine_21 : decode cX0_sine 21 = .ok (.istore_n 3, 1) := by decide +kernel
theorem dX0_sine_22 : decode cX0_sine 22 = .ok (.ldc 17, 2) := by decide +kernel
theorem dX0_sine_24 : decode cX0_sine 24 = .ok (.iload_n 3, 1) := by decide +kernel
theorem dX0_sine_25 : decode cX0_sine 25 = .ok (.isub, 1) := by decide +kernel
theorem dX0_sine_26 : decode cX0_sine 26 = .ok (.istore 4, 2) := by decide +kernel
theorem dX0_sine_28 : decode cX0_sine 28 = .ok (.iload 4, 2) := by decide +kernel
theorem dX0_sine_30 : decode cX0_sine 30 = .ok (.ifCond .le 14, 3) := by decide +kernel
theorem dX0_sine_33 : decode cX0_sine 33 = .ok (.sipush 4000, 3) := by decide +kernel
theorem dX0_sine_36 : decode cX0_sine 36 = .ok (.iload_n 3, 1) := by decide +kernel
theorem dX0_sine_37 : decode cX0_sine 37 = .ok (.imul, 1) := by decide +kernel
theorem dX0_sine_38 : decode cX0_sine 38 = .ok (.iload 4, 2) := by decide +kernel
theorem dX0_sine_40 : decode cX0_sine 40 = .ok (.idiv, 1) := by decide +kernel
theorem dX0_sine_41 : decode cX0_sine 41 = .ok (.goto 4, 3) := by decide +kernel
theorem dX0_sine_44 : decode cX0_sine 44 = .ok (.iconst 0, 1) := by decide +kernel
theorem dX0_sine_45 : decode cX0_sine 45 = .ok (.istore 5, 2) := by decide +kernel
theorem dX0_sine_47 : decode cX0_sine 47 = .ok (.iload_n 1, 1) := by decide +kernel
theorem dX0_sine_48 : decode cX0_sine 48 = .ok (.sipush 180, 3) := by decide +kernel
theorem dX0_sine_51 : decode cX0_sine 51 = .ok (.if_icmp .ge 8, 3) := by decide +kernel
theorem dX0_sine_54 : decode cX0_sine 54 = .ok (.iload 5, 2) := by decide +kernel
theorem dX0_sine_56 : decode cX0_sine 56 = .ok (.goto 6, 3) := by decide +kernel
theorem dX0_sine_59 : decode cX0_sine 59 = .ok (.iload 5, 2) := by decide +kernel
theorem dX0_sine_61 : decode cX0_sine 61 = .ok (.ineg, 1) := by decide +kernel
theorem dX0_sine_62 : decode cX0_sine 62 = .ok (.ireturn, 1) := by decide +kernel
theorem dX0_cosine_0 : decode cX0_cosine 0 = .ok (.iload_n 0, 1) := by decide +kernel
theorem dX0_cosine_1 : decode cX0_cosine 1 = .ok (.bipush 90, 2) := by decide +kernel
theorem dX0_cosine_3 : decode cX0_cosine 3 = .ok (.iadd, 1) := by decide +kernel
theorem dX0_cosine_4 : decode cX0_cosine 4 = .ok (.invokestatic 18, 3) := by decide +kernel
theorem dX0_cosine_7 : decode cX0_cosine 7 = .ok (.ireturn, 1) := by decide +kernel
theorem dX1_init_0 : decode cX1_init 0 = .ok (.aload_n 0, 1) := by decide +kernel
theorem dX1_init_1 : decode cX1_init 1 = .ok (.invokespecial 3, 3) := by decide +kernel
theorem dX1_init_4 : decode cX1_init 4 = .ok (.aload_n 0, 1) := by decide +kernel
theorem dX1_init_5 : decode cX1_init 5 = .ok (.bipush 48, 2) := by decide +kernel
theorem dX1_init_7 : decode cX1_init 7 = .ok (.newarray .int, 2) := by decide +kernel
theorem dX1_init_9 : decode cX1_init 9 = .ok (.putfield 9, 3) := by decide +kernel
theorem dX1_init_12 : decode cX1_init 12 = .ok (.aload_n 0, 1) := by decide +kernel
theorem dX1_init_13 : decode cX1_init 13 = .ok (.bipush 80, 2) := by decide +kernel
theorem dX1_init_15 : decode cX1_init 15 = .ok (.newarray .int, 2) := by decide +kernel
theorem dX1_init_17 : decode cX1_init 17 = .ok (.putfield 15, 3) := by decide +kernel
theorem dX1_init_20 : decode cX1_init 20 = .ok (.aload_n 0, 1) := by decide +kernel
theorem dX1_init_21 : decode cX1_init 21 = .ok (.bipush 8, 2) := by decide +kernel
theorem dX1_init_23 : decode cX1_init 23 = .ok (.newarray .int, 2) := by decide +kernel
theorem dX1_init_25 : decode cX1_init 25 = .ok (.putfield 18, 3) := by decide +kernel
theorem dX1_init_28 : decode cX1_init 28 = .ok (.aload_n 0, 1) := by decide +kernel
theorem dX1_init_29 : decode cX1_init 29 = .ok (.getfield 9, 3) := by decide +kernel
theorem dX1_init_32 : decode cX1_init 32 = .ok (.iconst (-1), 1) := by decide +kernel
theorem dX1_init_33 : decode cX1_init 33 = .ok (.invokestatic 21, 3) := by decide +kernel
theorem dX1_init_36 : decode cX1_init 36 = .ok (.aload_n 0, 1) := by decide +kernel
theorem dX1_init_37 : decode cX1_init 37 = .ok (.getfield 18, 3) := by decide +kernel
theorem dX1_init_40 : decode cX1_init 40 = .ok (.iconst (-1), 1) := by decide +kernel
theorem dX1_init_41 : decode cX1_init 41 = .ok (.invokestatic 21, 3) := by decide +kernel
theorem dX1_init_44 : decode cX1_init 44 = .ok (.return_, 1) := by decide +kernel
theorem dX1_replace_0 : decode cX1_replace 0 = .ok (.iload_n 1, 1) := by decide +kernel
theorem dX1_replace_1 : decode cX1_replace 1 = .ok (.bipush 8, 2) := by decide +kernel
theorem dX1_replace_3 : decode cX1_replace 3 = .ok (.imul, 1) := by decide +kernel
theorem dX1_replace_4 : decode cX1_replace 4 = .ok (.iload_n 2, 1) := by decide +kernel
theorem dX1_replace_5 : decode cX1_replace 5 = .ok (.iadd, 1) := by decide +kernel
theorem dX1_replace_6 : decode cX1_replace 6 = .ok (.istore 4, 2) := by decide +kernel
theorem dX1_replace_8 : decode cX1_replace 8 = .ok (.aload_n 0, 1) := by decide +kernel
theorem dX1_replace_9 : decode cX1_replace 9 = .ok (.getfield 9, 3) := by decide +kernel
theorem dX1_replace_12 : decode cX1_replace 12 = .ok (.iload 4, 2) := by decide +kernel
theorem dX1_replace_14 : decode cX1_replace 14 = .ok (.iaload, 1) := by decide +kernel
theorem dX1_replace_15 : decode cX1_replace 15 = .ok (.istore 5, 2) := by decide +kernel
theorem dX1_replace_17 : decode cX1_replace 17 = .ok (.aload_n 0, 1) := by decide +kernel
theorem dX1_replace_18 : decode cX1_replace 18 = .ok (.getfield 9, 3) := by decide +kernel
theorem dX1_replace_21 : decode cX1_replace 21 = .ok (.iload 4, 2) := by decide +kernel
theorem dX1_replace_23 : decode cX1_replace 23 = .ok (.iload_n 3, 1) := by decide +kernel
theorem dX1_replace_24 : decode cX1_replace 24 = .ok (.iastore, 1) := by decide +kernel
theorem dX1_replace_25 : decode cX1_replace 25 = .ok (.aload_n 0, 1) := by decide +kernel
theorem dX1_replace_26 : decode cX1_replace 26 = .ok (.iload_n 2, 1) := by decide +kernel
theorem dX1_replace_27 : decode cX1_replace 27 = .ok (.iload 5, 2) := by decide +kernel
theorem dX1_replace_29 : decode cX1_replace 29 = .ok (.iconst (-1), 1) := by decide +kernel
theorem dX1_replace_30 : decode cX1_replace 30 = .ok (.invokevirtual 27, 3) := by decide +kernel
theorem dX1_replace_33 : decode cX1_replace 33 = .ok (.aload_n 0, 1) := by decide +kernel
theorem dX1_replace_34 : decode cX1_replace 34 = .ok (.iload_n 2, 1) := by decide +kernel
theorem dX1_replace_35 : decode cX1_replace 35 = .ok (.iload_n 3, 1) := by decide +kernel
theorem dX1_replace_36 : decode cX1_replace 36 = .ok (.iconst 1, 1) := by decide +kernel
theorem dX1_replace_37 : decode cX1_replace 37 = .ok (.invokevirtual 27, 3) := by decide +kernel
theorem dX1_replace_40 : decode cX1_replace 40 = .ok (.aload_n 0, 1) := by decide +kernel
theorem dX1_replace_41 : decode cX1_replace 41 = .ok (.invokevirtual 31, 3) := by decide +kernel
theorem dX1_replace_44 : decode cX1_replace 44 = .ok (.iload 5, 2) := by decide +kernel
theorem dX1_replace_46 : decode cX1_replace 46 = .ok (.ireturn, 1) := by decide +kernel
theorem dX1_count_0 : decode cX1_count 0 = .ok (.iload_n 2, 1) := by decide +kernel
theorem dX1_count_1 : decode cX1_count 1 = .ok (.iconst (-1), 1) := by decide +kernel
theorem dX1_count_2 : decode cX1_count 2 = .ok (.if_icmp .eq 18, 3) := by decide +kernel
theorem dX1_count_5 : decode cX1_count 5 = .ok (.aload_n 0, 1) := by decide +kernel
theorem dX1_count_6 : decode cX1_count 6 = .ok (.getfield 15, 3) := by decide +kernel
theorem dX1_count_9 : decode cX1_count 9 = .ok (.iload_n 1, 1) := by decide +kernel
theorem dX1_count_10 : decode cX1_count 10 = .ok (.bipush 10, 2) := by decide +kernel
theorem dX1_count_12 : decode cX1_count 12 = .ok (.imul, 1) := by decide +kernel
theorem dX1_count_13 : decode cX1_count 13 = .ok (.iload_n 2, 1) := by decide +kernel
theorem dX1_count_14 : decode cX1_count 14 = .ok (.iadd, 1) := by decide +kernel
theorem dX1_count_15 : decode cX1_count 15 = .ok (.dup2, 1) := by decide +kernel
theorem dX1_count_16 : decode cX1_count 16 = .ok (.iaload, 1) := by decide +kernel
theorem dX1_count_17 : decode cX1_count 17 = .ok (.iload_n 3, 1) := by decide +kernel
theorem dX1_count_18 : decode cX1_count 18 = .ok (.iadd, 1) := by decide +kernel
theorem dX1_count_19 : decode cX1_count 19 = .ok (.iastore, 1) := by decide +kernel
theorem dX1_count_20 : decode cX1_count 20 = .ok (.return_, 1) := by decide +kernel
theorem dX1_giveNames_0 : decode cX1_giveNames 0 = .ok (.aload_n 0, 1) := by decide +kernel
theorem dX1_giveNames_1 : decode cX1_giveNames 1 = .ok (.getfield 18, 3) := by decide +kernel
theorem dX1_giveNames_4 : decode cX1_giveNames 4 = .ok (.iconst (-1), 1) := by decide +kernel
theorem dX1_giveNames_5 : decode cX1_giveNames 5 = .ok (.invokestatic 21, 3) := by decide +kernel
theorem dX1_giveNames_8 : decode cX1_giveNames 8 = .ok (.iconst 0, 1) := by decide +kernel
theorem dX1_giveNames_9 : decode cX1_giveNames 9 = .ok (.istore_n 1, 1) := by decide +kernel
theorem dX1_giveNames_10 : decode cX1_giveNames 10 = .ok (.bipush 6, 2) := by decide +kernel
theorem dX1_giveNames_12 : decode cX1_giveNames 12 = .ok (.istore_n 2, 1) := by decide +kernel
theorem dX1_giveNames_13 : decode cX1_giveNames 13 = .ok (.iload_n 2, 1) := by decide +kernel
theorem dX1_giveNames_14 : decode cX1_giveNames 14 = .ok (.ifCond .le 33, 3) := by decide +kernel
theorem dX1_giveNames_17 : decode cX1_giveNames 17 = .ok (.iconst 0, 1) := by decide +kernel
theorem dX1_giveNames_18 : decode cX1_giveNames 18 = .ok (.istore_n 3, 1) := by decide +kernel
theorem dX1_giveNames_19 : decode cX1_giveNames 19 = .ok (.iload_n 3, 1) := by decide +kernel
theorem dX1_giveNames_20 : decode cX1_giveNames 20 = .ok (.bipush 8, 2) := by decide +kernel
theorem dX1_giveNames_22 : decode cX1_giveNames 22 = .ok (.if_icmp .ge 19, 3) := by decide +kernel
theorem dX1_giveNames_25 : decode cX1_giveNames 25 = .ok (.iload_n 1, 1) := by decide +kernel
theorem dX1_giveNames_26 : decode cX1_giveNames 26 = .ok (.aload_n 0, 1) := by decide +kernel
theorem dX1_giveNames_27 : decode cX1_giveNames 27 = .ok (.iload_n 3, 1) := by decide +kernel
theorem dX1_giveNames_28 : decode cX1_giveNames 28 = .ok (.iload_n 2, 1) := by decide +kernel
theorem dX1_giveNames_29 : decode cX1_giveNames 29 = .ok (.iload_n 1, 1) := by decide +kernel
theorem dX1_giveNames_30 : decode cX1_giveNames 30 = .ok (.invokevirtual 34, 3) := by decide +kernel
theorem dX1_giveNames_33 : decode cX1_giveNames 33 = .ok (.ior, 1) := by decide +kernel
theorem dX1_giveNames_34 : decode cX1_giveNames 34 = .ok (.istore_n 1, 1) := by decide +kernel
theorem dX1_giveNames_35 : decode cX1_giveNames 35 = .ok (.iinc 3 1, 3) := by decide +kernel
theorem dX1_giveNames_38 : decode cX1_giveNames 38 = .ok (.goto (-19), 3) := by decide +kernel
theorem dX1_giveNames_41 : decode cX1_giveNames 41 = .ok (.iinc 2 (-1), 3) := by decide +kernel
theorem dX1_giveNames_44 : decode cX1_giveNames 44 = .ok (.goto (-31), 3) := by decide +kernel
theorem dX1_giveNames_47 : decode cX1_giveNames 47 = .ok (.return_, 1) := by decide +kernel
theorem dX1_giveName_0 : decode cX1_giveName 0 = .ok (.iconst 0, 1) := by decide +kernel
theorem dX1_giveName_1 : decode cX1_giveName 1 = .ok (.istore 4, 2) := by decide +kernel
theorem dX1_giveName_3 : decode cX1_giveName 3 = .ok (.iload 4, 2) := by decide +kernel
theorem dX1_giveName_5 : decode cX1_giveName 5 = .ok (.bipush 10, 2) := by decide +kernel
theorem dX1_giveName_7 : decode cX1_giveName 7 = .ok (.if_icmp .ge 69, 3) := by decide +kernel
theorem dX1_giveName_10 : decode cX1_giveName 10 = .ok (.aload_n 0, 1) := by decide +kernel
theorem dX1_giveName_11 : decode cX1_giveName 11 = .ok (.getfield 18, 3) := by decide +kernel
theorem dX1_giveName_14 : decode cX1_giveName 14 = .ok (.iload_n 1, 1) := by decide +kernel
theorem dX1_giveName_15 : decode cX1_giveName 15 = .ok (.iaload, 1) := by decide +kernel
theorem dX1_giveName_16 : decode cX1_giveName 16 = .ok (.iconst (-1), 1) := by decide +kernel
theorem dX1_giveName_17 : decode cX1_giveName 17 = .ok (.if_icmp .ne 59, 3) := by decide +kernel
theorem dX1_giveName_20 : decode cX1_giveName 20 = .ok (.iload_n 3, 1) := by decide +kernel
theorem dX1_giveName_21 : decode cX1_giveName 21 = .ok (.iconst 1, 1) := by decide +kernel
theorem dX1_giveName_22 : decode cX1_giveName 22 = .ok (.iload 4, 2) := by decide +kernel
theorem dX1_giveName_24 : decode cX1_giveName 24 = .ok (.ishl, 1) := by decide +kernel
theorem dX1_giveName_25 : decode cX1_giveName 25 = .ok (.iand, 1) := by decide +kernel
theorem dX1_giveName_26 : decode cX1_giveName 26 = .ok (.ifCond .ne 7, 3) := by decide +kernel
theorem dX1_giveName_29 : decode cX1_giveName 29 = .ok (.iconst 1, 1) := by decide +kernel
theorem dX1_giveName_30 : decode cX1_giveName 30 = .ok (.goto 4, 3) := by decide +kernel
theorem dX1_giveName_33 : decode cX1_giveName 33 = .ok (.iconst 0, 1) := by decide +kernel
theorem dX1_giveName_34 : decode cX1_giveName 34 = .ok (.istore 5, 2) := by decide +kernel
theorem dX1_giveName_36 : decode cX1_giveName 36 = .ok (.iload 5, 2) := by decide +kernel
theorem dX1_giveName_38 : decode cX1_giveName 38 = .ok (.ifCond .eq 32, 3) := by decide +kernel
theorem dX1_giveName_41 : decode cX1_giveName 41 = .ok (.aload_n 0, 1) := by decide +kernel
theorem dX1_giveName_42 : decode cX1_giveName 42 = .ok (.getfield 15, 3) := by decide +kernel
theorem dX1_giveName_45 : decode cX1_giveName 45 = .ok (.iload_n 1, 1) := by decide +kernel
theorem dX1_giveName_46 : decode cX1_giveName 46 = .ok (.bipush 10, 2) := by decide +kernel
theorem dX1_giveName_48 : decode cX1_giveName 48 = .ok (.imul, 1) := by decide +kernel
theorem dX1_giveName_49 : decode cX1_giveName 49 = .ok (.iload 4, 2) := by decide +kernel
theorem dX1_giveName_51 : decode cX1_giveName 51 = .ok (.iadd, 1) := by decide +kernel
theorem dX1_giveName_52 : decode cX1_giveName 52 = .ok (.iaload, 1) := by decide +kernel
theorem dX1_giveName_53 : decode cX1_giveName 53 = .ok (.iload_n 2, 1) := by decide +kernel
theorem dX1_giveName_54 : decode cX1_giveName 54 = .ok (.if_icmp .ne 16, 3) := by decide +kernel
theorem dX1_giveName_57 : decode cX1_giveName 57 = .ok (.aload_n 0, 1) := by decide +kernel
theorem dX1_giveName_58 : decode cX1_giveName 58 = .ok (.getfield 18, 3) := by decide +kernel
theorem dX1_giveName_61 : decode cX1_giveName 61 = .ok (.iload_n 1, 1) := by decide +kernel
theorem dX1_giveName_62 : decode cX1_giveName 62 = .ok (.iload 4, 2) := by decide +kernel
theorem dX1_giveName_64 : decode cX1_giveName 64 = .ok (.iastore, 1) := by decide +kernel
theorem dX1_giveName_65 : decode cX1_giveName 65 = .ok (.iconst 1, 1) := by decide +kernel
theorem dX1_giveName_66 : decode cX1_giveName 66 = .ok (.iload 4, 2) := by decide +kernel
theorem dX1_giveName_68 : decode cX1_giveName 68 = .ok (.ishl, 1) := by decide +kernel
theorem dX1_giveName_69 : decode cX1_giveName 69 = .ok (.ireturn, 1) := by decide +kernel
theorem dX1_giveName_70 : decode cX1_giveName 70 = .ok (.iinc 4 1, 3) := by decide +kernel
theorem dX1_giveName_73 : decode cX1_giveName 73 = .ok (.goto (-70), 3) := by decide +kernel
theorem dX1_giveName_76 : decode cX1_giveName 76 = .ok (.iconst 0, 1) := by decide +kernel
theorem dX1_giveName_77 : decode cX1_giveName 77 = .ok (.ireturn, 1) := by decide +kernel
theorem dX2_init_0 : decode cX2_init 0 = .ok (.aload_n 0, 1) := by decide +kernel
theorem dX2_init_1 : decode cX2_init 1 = .ok (.invokespecial 3, 3) := by decide +kernel
theorem dX2_init_4 : decode cX2_init 4 = .ok (.aload_n 0, 1) := by decide +kernel
theorem dX2_init_5 : decode cX2_init 5 = .ok (.bipush 24, 2) := by decide +kernel
theorem dX2_init_7 : decode cX2_init 7 = .ok (.newarray .int, 2) := by decide +kernel
theorem dX2_init_9 : decode cX2_init 9 = .ok (.putfield 9, 3) := by decide +kernel
theorem dX2_init_12 : decode cX2_init 12 = .ok (.aload_n 0, 1) := by decide +kernel
theorem dX2_init_13 : decode cX2_init 13 = .ok (.bipush 24, 2) := by decide +kernel
theorem dX2_init_15 : decode cX2_init 15 = .ok (.newarray .int, 2) := by decide +kernel
theorem dX2_init_17 : decode cX2_init 17 = .ok (.putfield 15, 3) := by decide +kernel
theorem dX2_init_20 : decode cX2_init 20 = .ok (.return_, 1) := by decide +kernel
theorem dX2_append_0 : decode cX2_append 0 = .ok (.aload_n 0, 1) := by decide +kernel
theorem dX2_append_1 : decode cX2_append 1 = .ok (.getfield 18, 3) := by decide +kernel
theorem dX2_append_4 : decode cX2_append 4 = .ok (.istore_n 3, 1) := by decide +kernel
theorem dX2_append_5 : decode cX2_append 5 = .ok (.iload_n 3, 1) := by decide +kernel
theorem dX2_append_6 : decode cX2_append 6 = .ok (.bipush 24, 2) := by decide +kernel
theorem dX2_append_8 : decode cX2_append 8 = .ok (.if_icmp .ge 20, 3) := by decide +kernel
theorem dX2_append_11 : decode cX2_append 11 = .ok (.aload_n 0, 1) := by decide +kernel
theorem dX2_append_12 : decode cX2_append 12 = .ok (.iload_n 3, 1) := by decide +kernel
theorem dX2_append_13 : decode cX2_append 13 = .ok (.iload_n 1, 1) := by decide +kernel
theorem dX2_append_14 : decode cX2_append 14 = .ok (.iload_n 2, 1) := by decide +kernel
theorem dX2_append_15 : decode cX2_append 15 = .ok (.invokevirtual 22, 3) := by decide +kernel
theorem dX2_append_18 : decode cX2_append 18 = .ok (.aload_n 0, 1) := by decide +kernel
theorem dX2_append_19 : decode cX2_append 19 = .ok (.dup, 1) := by decide +kernel
theorem dX2_append_20 : decode cX2_append 20 = .ok (.getfield 18, 3) := by decide +kernel
theorem dX2_append_23 : decode cX2_append 23 = .ok (.iconst 1, 1) := by decide +kernel
theorem dX2_append_24 : decode cX2_append 24 = .ok (.iadd, 1) := by decide +kernel
theorem dX2_append_25 : decode cX2_append 25 = .ok (.putfield 18, 3) := by decide +kernel
theorem dX2_append_28 : decode cX2_append 28 = .ok (.iload_n 3, 1) := by decide +kernel
theorem dX2_append_29 : decode cX2_append 29 = .ok (.ireturn, 1) := by decide +kernel
theorem dX2_move_0 : decode cX2_move 0 = .ok (.aload_n 0, 1) := by decide +kernel
theorem dX2_move_1 : decode cX2_move 1 = .ok (.getfield 9, 3) := by decide +kernel
theorem dX2_move_4 : decode cX2_move 4 = .ok (.iload_n 1, 1) := by decide +kernel
theorem dX2_move_5 : decode cX2_move 5 = .ok (.iload_n 2, 1) := by decide +kernel
theorem dX2_move_6 : decode cX2_move 6 = .ok (.iastore, 1) := by decide +kernel
theorem dX2_move_7 : decode cX2_move 7 = .ok (.aload_n 0, 1) := by decide +kernel
theorem dX2_move_8 : decode cX2_move 8 = .ok (.getfield 15, 3) := by decide +kernel
theorem dX2_move_11 : decode cX2_move 11 = .ok (.iload_n 1, 1) := by decide +kernel
theorem dX2_move_12 : decode cX2_move 12 = .ok (.iload_n 3, 1) := by decide +kernel
theorem dX2_move_13 : decode cX2_move 13 = .ok (.iastore, 1) := by decide +kernel
theorem dX2_move_14 : decode cX2_move 14 = .ok (.return_, 1) := by decide +kernel
theorem dX2_heightAt_0 : decode cX2_heightAt 0 = .ok (.aload_n 0, 1) := by decide +kernel
theorem dX2_heightAt_1 : decode cX2_heightAt 1 = .ok (.getfield 15, 3) := by decide +kernel
theorem dX2_heightAt_4 : decode cX2_heightAt 4 = .ok (.iload_n 1, 1) := by decide +kernel
theorem dX2_heightAt_5 : decode cX2_heightAt 5 = .ok (.iaload, 1) := by decide +kernel
theorem dX2_heightAt_6 : decode cX2_heightAt 6 = .ok (.istore 4, 2) := by decide +kernel
theorem dX2_heightAt_8 : decode cX2_heightAt 8 = .ok (.iload_n 2, 1) := by decide +kernel
theorem dX2_heightAt_9 : decode cX2_heightAt 9 = .ok (.invokestatic 26, 3) := by decide +kernel
theorem dX2_heightAt_12 : decode cX2_heightAt 12 = .ok (.iload 4, 2) := by decide +kernel
theorem dX2_heightAt_14 : decode cX2_heightAt 14 = .ok (.invokestatic 26, 3) := by decide +kernel
theorem dX2_heightAt_17 : decode cX2_heightAt 17 = .ok (.imul, 1) := by decide +kernel
theorem dX2_heightAt_18 : decode cX2_heightAt 18 = .ok (.istore 5, 2) := by decide +kernel
theorem dX2_heightAt_20 : decode cX2_heightAt 20 = .ok (.iload_n 2, 1) := by decide +kernel
theorem dX2_heightAt_21 : decode cX2_heightAt 21 = .ok (.invokestatic 32, 3) := by decide +kernel
theorem dX2_heightAt_24 : decode cX2_heightAt 24 = .ok (.iload 4, 2) := by decide +kernel
theorem dX2_heightAt_26 : decode cX2_heightAt 26 = .ok (.invokestatic 32, 3) := by decide +kernel
theorem dX2_heightAt_29 : decode cX2_heightAt 29 = .ok (.imul, 1) := by decide +kernel
theorem dX2_heightAt_30 : decode cX2_heightAt 30 = .ok (.iload_n 3, 1) := by decide +kernel
theorem dX2_heightAt_31 : decode cX2_heightAt 31 = .ok (.aload_n 0, 1) := by decide +kernel
theorem dX2_heightAt_32 : decode cX2_heightAt 32 = .ok (.getfield 9, 3) := by decide +kernel
theorem dX2_heightAt_35 : decode cX2_heightAt 35 = .ok (.iload_n 1, 1) := by decide +kernel
theorem dX2_heightAt_36 : decode cX2_heightAt 36 = .ok (.iaload, 1) := by decide +kernel
theorem dX2_heightAt_37 : decode cX2_heightAt 37 = .ok (.isub, 1) := by decide +kernel
theorem dX2_heightAt_38 : decode cX2_heightAt 38 = .ok (.invokestatic 32, 3) := by decide +kernel
theorem dX2_heightAt_41 : decode cX2_heightAt 41 = .ok (.imul, 1) := by decide +kernel
theorem dX2_heightAt_42 : decode cX2_heightAt 42 = .ok (.istore 6, 2) := by decide +kernel
theorem dX2_heightAt_44 : decode cX2_heightAt 44 = .ok (.iload 5, 2) := by decide +kernel
theorem dX2_heightAt_46 : decode cX2_heightAt 46 = .ok (.iload 6, 2) := by decide +kernel
theorem dX2_heightAt_48 : decode cX2_heightAt 48 = .ok (.sipush 1000, 3) := by decide +kernel
theorem dX2_heightAt_51 : decode cX2_heightAt 51 = .ok (.invokestatic 35, 3) := by decide +kernel
theorem dX2_heightAt_54 : decode cX2_heightAt 54 = .ok (.iadd, 1) := by decide +kernel
theorem dX2_heightAt_55 : decode cX2_heightAt 55 = .ok (.sipush 1000, 3) := by decide +kernel
theorem dX2_heightAt_58 : decode cX2_heightAt 58 = .ok (.invokestatic 35, 3) := by decide +kernel
theorem dX2_heightAt_61 : decode cX2_heightAt 61 = .ok (.ireturn, 1) := by decide +kernel
theorem dX2_meet_0 : decode cX2_meet 0 = .ok (.aload_n 0, 1) := by decide +kernel
theorem dX2_meet_1 : decode cX2_meet 1 = .ok (.getfield 9, 3) := by decide +kernel
theorem dX2_meet_4 : decode cX2_meet 4 = .ok (.iload_n 1, 1) := by decide +kernel
theorem dX2_meet_5 : decode cX2_meet 5 = .ok (.iaload, 1) := by decide +kernel
theorem dX2_meet_6 : decode cX2_meet 6 = .ok (.aload_n 0, 1) := by decide +kernel
theorem dX2_meet_7 : decode cX2_meet 7 = .ok (.getfield 9, 3) := by decide +kernel
theorem dX2_meet_10 : decode cX2_meet 10 = .ok (.iload_n 2, 1) := by decide +kernel
theorem dX2_meet_11 : decode cX2_meet 11 = .ok (.iaload, 1) := by decide +kernel
theorem dX2_meet_12 : decode cX2_meet 12 = .ok (.aload_n 0, 1) := by decide +kernel
theorem dX2_meet_13 : decode cX2_meet 13 = .ok (.getfield 9, 3) := by decide +kernel
theorem dX2_meet_16 : decode cX2_meet 16 = .ok (.iload_n 3, 1) := by decide +kernel
theorem dX2_meet_17 : decode cX2_meet 17 = .ok (.iaload, 1) := by decide +kernel
theorem dX2_meet_18 : decode cX2_meet 18 = .ok (.aload_n 0, 1) := by decide +kernel
theorem dX2_meet_19 : decode cX2_meet 19 = .ok (.getfield 9, 3) := by decide +kernel
theorem dX2_meet_22 : decode cX2_meet 22 = .ok (.iload 4, 2) := by decide +kernel
theorem dX2_meet_24 : decode cX2_meet 24 = .ok (.iaload, 1) := by decide +kernel
theorem dX2_meet_25 : decode cX2_meet 25 = .ok (.invokestatic 41, 3) := by decide +kernel
theorem dX2_meet_28 : decode cX2_meet 28 = .ok (.ifCond .eq 62, 3) := by decide +kernel
theorem dX2_meet_31 : decode cX2_meet 31 = .ok (.aload_n 0, 1) := by decide +kernel
theorem dX2_meet_32 : decode cX2_meet 32 = .ok (.getfield 15, 3) := by decide +kernel
theorem dX2_meet_35 : decode cX2_meet 35 = .ok (.iload_n 1, 1) := by decide +kernel
theorem dX2_meet_36 : decode cX2_meet 36 = .ok (.iaload, 1) := by decide +kernel
theorem dX2_meet_37 : decode cX2_meet 37 = .ok (.aload_n 0, 1) := by decide +kernel
theorem dX2_meet_38 : decode cX2_meet 38 = .ok (.getfield 15, 3) := by decide +kernel
theorem dX2_meet_41 : decode cX2_meet 41 = .ok (.iload_n 2, 1) := by decide +kernel
theorem dX2_meet_42 : decode cX2_meet 42 = .ok (.iaload, 1) := by decide +kernel
theorem dX2_meet_43 : decode cX2_meet 43 = .ok (.aload_n 0, 1) := by decide +kernel
theorem dX2_meet_44 : decode cX2_meet 44 = .ok (.getfield 15, 3) := by decide +kernel
theorem dX2_meet_47 : decode cX2_meet 47 = .ok (.iload_n 3, 1) := by decide +kernel
theorem dX2_meet_48 : decode cX2_meet 48 = .ok (.iaload, 1) := by decide +kernel
theorem dX2_meet_49 : decode cX2_meet 49 = .ok (.aload_n 0, 1) := by decide +kernel
theorem dX2_meet_50 : decode cX2_meet 50 = .ok (.getfield 15, 3) := by decide +kernel
theorem dX2_meet_53 : decode cX2_meet 53 = .ok (.iload 4, 2) := by decide +kernel
theorem dX2_meet_55 : decode cX2_meet 55 = .ok (.iaload, 1) := by decide +kernel
theorem dX2_meet_56 : decode cX2_meet 56 = .ok (.invokestatic 41, 3) := by decide +kernel
theorem dX2_meet_59 : decode cX2_meet 59 = .ok (.ifCond .eq 31, 3) := by decide +kernel
theorem dX2_meet_62 : decode cX2_meet 62 = .ok (.aload_n 0, 1) := by decide +kernel
theorem dX2_meet_63 : decode cX2_meet 63 = .ok (.iload_n 1, 1) := by decide +kernel
theorem dX2_meet_64 : decode cX2_meet 64 = .ok (.iload_n 2, 1) := by decide +kernel
theorem dX2_meet_65 : decode cX2_meet 65 = .ok (.iload_n 3, 1) := by decide +kernel
theorem dX2_meet_66 : decode cX2_meet 66 = .ok (.iload 4, 2) := by decide +kernel
theorem dX2_meet_68 : decode cX2_meet 68 = .ok (.invokevirtual 45, 3) := by decide +kernel
theorem dX2_meet_71 : decode cX2_meet 71 = .ok (.ifCond .eq 19, 3) := by decide +kernel
theorem dX2_meet_74 : decode cX2_meet 74 = .ok (.aload_n 0, 1) := by decide +kernel
theorem dX2_meet_75 : decode cX2_meet 75 = .ok (.iload_n 3, 1) := by decide +kernel
theorem dX2_meet_76 : decode cX2_meet 76 = .ok (.iload 4, 2) := by decide +kernel
theorem dX2_meet_78 : decode cX2_meet 78 = .ok (.iload_n 1, 1) := by decide +kernel
theorem dX2_meet_79 : decode cX2_meet 79 = .ok (.iload_n 2, 1) := by decide +kernel
theorem dX2_meet_80 : decode cX2_meet 80 = .ok (.invokevirtual 45, 3) := by decide +kernel
theorem dX2_meet_83 : decode cX2_meet 83 = .ok (.ifCond .eq 7, 3) := by decide +kernel
theorem dX2_meet_86 : decode cX2_meet 86 = .ok (.iconst 1, 1) := by decide +kernel
theorem dX2_meet_87 : decode cX2_meet 87 = .ok (.goto 4, 3) := by decide +kernel
theorem dX2_meet_90 : decode cX2_meet 90 = .ok (.iconst 0, 1) := by decide +kernel
theorem dX2_meet_91 : decode cX2_meet 91 = .ok (.ireturn, 1) := by decide +kernel
theorem dX2_spansOverlap_0 : decode cX2_spansOverlap 0 = .ok (.iload_n 0, 1) := by decide +kernel
theorem dX2_spansOverlap_1 : decode cX2_spansOverlap 1 = .ok (.iload_n 1, 1) := by decide +kernel
theorem dX2_spansOverlap_2 : decode cX2_spansOverlap 2 = .ok (.invokestatic 48, 3) := by decide +kernel
theorem dX2_spansOverlap_5 : decode cX2_spansOverlap 5 = .ok (.iload_n 2, 1) := by decide +kernel
theorem dX2_spansOverlap_6 : decode cX2_spansOverlap 6 = .ok (.iload_n 3, 1) := by decide +kernel
theorem dX2_spansOverlap_7 : decode cX2_spansOverlap 7 = .ok (.invokestatic 51, 3) := by decide +kernel
theorem dX2_spansOverlap_10 : decode cX2_spansOverlap 10 = .ok (.if_icmp .lt 20, 3) := by decide +kernel
theorem dX2_spansOverlap_13 : decode cX2_spansOverlap 13 = .ok (.iload_n 2, 1) := by decide +kernel
theorem dX2_spansOverlap_14 : decode cX2_spansOverlap 14 = .ok (.iload_n 3, 1) := by decide +kernel
theorem dX2_spansOverlap_15 : decode cX2_spansOverlap 15 = .ok (.invokestatic 48, 3) := by decide +kernel
theorem dX2_spansOverlap_18 : decode cX2_spansOverlap 18 = .ok (.iload_n 0, 1) := by decide +kernel
theorem dX2_spansOverlap_19 : decode cX2_spansOverlap 19 = .ok (.iload_n 1, 1) := by decide +kernel
theorem dX2_spansOverlap_20 : decode cX2_spansOverlap 20 = .ok (.invokestatic 51, 3) := by decide +kernel
theorem dX2_spansOverlap_23 : decode cX2_spansOverlap 23 = .ok (.if_icmp .lt 7, 3) := by decide +kernel
theorem dX2_spansOverlap_26 : decode cX2_spansOverlap 26 = .ok (.iconst 1, 1) := by decide +kernel
theorem dX2_spansOverlap_27 : decode cX2_spansOverlap 27 = .ok (.goto 4, 3) := by decide +kernel
theorem dX2_spansOverlap_30 : decode cX2_spansOverlap 30 = .ok (.iconst 0, 1) := by decide +kernel
theorem dX2_spansOverlap_31 : decode cX2_spansOverlap 31 = .ok (.ireturn, 1) := by decide +kernel
theorem dX2_straddles_0 : decode cX2_straddles 0 = .ok (.aload_n 0, 1) := by decide +kernel
theorem dX2_straddles_1 : decode cX2_straddles 1 = .ok (.iload_n 1, 1) := by decide +kernel
theorem dX2_straddles_2 : decode cX2_straddles 2 = .ok (.iload_n 2, 1) := by decide +kernel
theorem dX2_straddles_3 : decode cX2_straddles 3 = .ok (.iload_n 3, 1) := by decide +kernel
theorem dX2_straddles_4 : decode cX2_straddles 4 = .ok (.invokevirtual 54, 3) := by decide +kernel
theorem dX2_straddles_7 : decode cX2_straddles 7 = .ok (.aload_n 0, 1) := by decide +kernel
theorem dX2_straddles_8 : decode cX2_straddles 8 = .ok (.iload_n 1, 1) := by decide +kernel
theorem dX2_straddles_9 : decode cX2_straddles 9 = .ok (.iload_n 2, 1) := by decide +kernel
theorem dX2_straddles_10 : decode cX2_straddles 10 = .ok (.iload 4, 2) := by decide +kernel
theorem dX2_straddles_12 : decode cX2_straddles 12 = .ok (.invokevirtual 54, 3) := by decide +kernel
theorem dX2_straddles_15 : decode cX2_straddles 15 = .ok (.imul, 1) := by decide +kernel
theorem dX2_straddles_16 : decode cX2_straddles 16 = .ok (.ifCond .gt 7, 3) := by decide +kernel
theorem dX2_straddles_19 : decode cX2_straddles 19 = .ok (.iconst 1, 1) := by decide +kernel
theorem dX2_straddles_20 : decode cX2_straddles 20 = .ok (.goto 4, 3) := by decide +kernel
theorem dX2_straddles_23 : decode cX2_straddles 23 = .ok (.iconst 0, 1) := by decide +kernel
theorem dX2_straddles_24 : decode cX2_straddles 24 = .ok (.ireturn, 1) := by decide +kernel
theorem dX2_sideOf_0 : decode cX2_sideOf 0 = .ok (.aload_n 0, 1) := by decide +kernel
theorem dX2_sideOf_1 : decode cX2_sideOf 1 = .ok (.getfield 9, 3) := by decide +kernel
theorem dX2_sideOf_4 : decode cX2_sideOf 4 = .ok (.iload_n 2, 1) := by decide +kernel
theorem dX2_sideOf_5 : decode cX2_sideOf 5 = .ok (.iaload, 1) := by decide +kernel
theorem dX2_sideOf_6 : decode cX2_sideOf 6 = .ok (.aload_n 0, 1) := by decide +kernel
theorem dX2_sideOf_7 : decode cX2_sideOf 7 = .ok (.getfield 9, 3) := by decide +kernel
theorem dX2_sideOf_10 : decode cX2_sideOf 10 = .ok (.iload_n 1, 1) := by decide +kernel
theorem dX2_sideOf_11 : decode cX2_sideOf 11 = .ok (.iaload, 1) := by decide +kernel
theorem dX2_sideOf_12 : decode cX2_sideOf 12 = .ok (.isub, 1) := by decide +kernel
theorem dX2_sideOf_13 : decode cX2_sideOf 13 = .ok (.aload_n 0, 1) := by decide +kernel
theorem dX2_sideOf_14 : decode cX2_sideOf 14 = .ok (.getfield 15, 3) := by decide +kernel
theorem dX2_sideOf_17 : decode cX2_sideOf 17 = .ok (.iload_n 3, 1) := by decide +kernel
theorem dX2_sideOf_18 : decode cX2_sideOf 18 = .ok (.iaload, 1) := by decide +kernel
theorem dX2_sideOf_19 : decode cX2_sideOf 19 = .ok (.aload_n 0, 1) := by decide +kernel
theorem dX2_sideOf_20 : decode cX2_sideOf 20 = .ok (.getfield 15, 3) := by decide +kernel
theorem dX2_sideOf_23 : decode cX2_sideOf 23 = .ok (.iload_n 1, 1) := by decide +kernel
theorem dX2_sideOf_24 : decode cX2_sideOf 24 = .ok (.iaload, 1) := by decide +kernel
theorem dX2_sideOf_25 : decode cX2_sideOf 25 = .ok (.isub, 1) := by decide +kernel
theorem dX2_sideOf_26 : decode cX2_sideOf 26 = .ok (.imul, 1) := by decide +kernel
theorem dX2_sideOf_27 : decode cX2_sideOf 27 = .ok (.aload_n 0, 1) := by decide +kernel
theorem dX2_sideOf_28 : decode cX2_sideOf 28 = .ok (.getfield 15, 3) := by decide +kernel
theorem dX2_sideOf_31 : decode cX2_sideOf 31 = .ok (.iload_n 2, 1) := by decide +kernel
theorem dX2_sideOf_32 : decode cX2_sideOf 32 = .ok (.iaload, 1) := by decide +kernel
theorem dX2_sideOf_33 : decode cX2_sideOf 33 = .ok (.aload_n 0, 1) := by decide +kernel
theorem dX2_sideOf_34 : decode cX2_sideOf 34 = .ok (.getfield 15, 3) := by decide +kernel
theorem dX2_sideOf_37 : decode cX2_sideOf 37 = .ok (.iload_n 1, 1) := by decide +kernel
theorem dX2_sideOf_38 : decode cX2_sideOf 38 = .ok (.iaload, 1) := by decide +kernel
theorem dX2_sideOf_39 : decode cX2_sideOf 39 = .ok (.isub, 1) := by decide +kernel
theorem dX2_sideOf_40 : decode cX2_sideOf 40 = .ok (.aload_n 0, 1) := by decide +kernel
theorem dX2_sideOf_41 : decode cX2_sideOf 41 = .ok (.getfield 9, 3) := by decide +kernel
theorem dX2_sideOf_44 : decode cX2_sideOf 44 = .ok (.iload_n 3, 1) := by decide +kernel
theorem dX2_sideOf_45 : decode cX2_sideOf 45 = .ok (.iaload, 1) := by decide +kernel
theorem dX2_sideOf_46 : decode cX2_sideOf 46 = .ok (.aload_n 0, 1) := by decide +kernel
theorem dX2_sideOf_47 : decode cX2_sideOf 47 = .ok (.getfield 9, 3) := by decide +kernel
theorem dX2_sideOf_50 : decode cX2_sideOf 50 = .ok (.iload_n 1, 1) := by decide +kernel
theorem dX2_sideOf_51 : decode cX2_sideOf 51 = .ok (.iaload, 1) := by decide +kernel
theorem dX2_sideOf_52 : decode cX2_sideOf 52 = .ok (.isub, 1) := by decide +kernel
theorem dX2_sideOf_53 : decode cX2_sideOf 53 = .ok (.imul, 1) := by decide +kernel
theorem dX2_sideOf_54 : decode cX2_sideOf 54 = .ok (.invokestatic 58, 3) := by decide +kernel
theorem dX2_sideOf_57 : decode cX2_sideOf 57 = .ok (.ireturn, 1) := by decide +kernel
theorem dX3_init_0 : decode cX3_init 0 = .ok (.aload_n 0, 1) := by decide +kernel
theorem dX3_init_1 : decode cX3_init 1 = .ok (.invokespecial 3, 3) := by decide +kernel
theorem dX3_init_4 : decode cX3_init 4 = .ok (.aload_n 0, 1) := by decide +kernel
theorem dX3_init_5 : decode cX3_init 5 = .ok (.bipush 30, 2) := by decide +kernel
theorem dX3_init_7 : decode cX3_init 7 = .ok (.newarray .int, 2) := by decide +kernel
theorem dX3_init_9 : decode cX3_init 9 = .ok (.putfield 9, 3) := by decide +kernel
theorem dX3_init_12 : decode cX3_init 12 = .ok (.aload_n 0, 1) := by decide +kernel
theorem dX3_init_13 : decode cX3_init 13 = .ok (.bipush 30, 2) := by decide +kernel
theorem dX3_init_15 : decode cX3_init 15 = .ok (.newarray .int, 2) := by decide +kernel
theorem dX3_init_17 : decode cX3_init 17 = .ok (.putfield 15, 3) := by decide +kernel
theorem dX3_init_20 : decode cX3_init 20 = .ok (.aload_n 0, 1) := by decide +kernel
theorem dX3_init_21 : decode cX3_init 21 = .ok (.bipush 30, 2) := by decide +kernel
theorem dX3_init_23 : decode cX3_init 23 = .ok (.newarray .int, 2) := by decide +kernel
theorem dX3_init_25 : decode cX3_init 25 = .ok (.putfield 18, 3) := by decide +kernel
theorem dX3_init_28 : decode cX3_init 28 = .ok (.aload_n 0, 1) := by decide +kernel
theorem dX3_init_29 : decode cX3_init 29 = .ok (.bipush 30, 2) := by decide +kernel
theorem dX3_init_31 : decode cX3_init 31 = .ok (.newarray .int, 2) := by decide +kernel
theorem dX3_init_33 : decode cX3_init 33 = .ok (.putfield 21, 3) := by decide +kernel
theorem dX3_init_36 : decode cX3_init 36 = .ok (.aload_n 0, 1) := by decide +kernel
theorem dX3_init_37 : decode cX3_init 37 = .ok (.bipush 30, 2) := by decide +kernel
theorem dX3_init_39 : decode cX3_init 39 = .ok (.newarray .int, 2) := by decide +kernel
theorem dX3_init_41 : decode cX3_init 41 = .ok (.putfield 24, 3) := by decide +kernel
theorem dX3_init_44 : decode cX3_init 44 = .ok (.return_, 1) := by decide +kernel
theorem dX3_keep_0 : decode cX3_keep 0 = .ok (.aload_n 0, 1) := by decide +kernel
theorem dX3_keep_1 : decode cX3_keep 1 = .ok (.getfield 9, 3) := by decide +kernel
theorem dX3_keep_4 : decode cX3_keep 4 = .ok (.aload_n 0, 1) := by decide +kernel
theorem dX3_keep_5 : decode cX3_keep 5 = .ok (.getfield 27, 3) := by decide +kernel
theorem dX3_keep_8 : decode cX3_keep 8 = .ok (.iload_n 1, 1) := by decide +kernel
theorem dX3_keep_9 : decode cX3_keep 9 = .ok (.iastore, 1) := by decide +kernel
theorem dX3_keep_10 : decode cX3_keep 10 = .ok (.aload_n 0, 1) := by decide +kernel
theorem dX3_keep_11 : decode cX3_keep 11 = .ok (.getfield 15, 3) := by decide +kernel
theorem dX3_keep_14 : decode cX3_keep 14 = .ok (.aload_n 0, 1) := by decide +kernel
theorem dX3_keep_15 : decode cX3_keep 15 = .ok (.getfield 27, 3) := by decide +kernel
theorem dX3_keep_18 : decode cX3_keep 18 = .ok (.iload_n 2, 1) := by decide +kernel
theorem dX3_keep_19 : decode cX3_keep 19 = .ok (.iastore, 1) := by decide +kernel
theorem dX3_keep_20 : decode cX3_keep 20 = .ok (.aload_n 0, 1) := by decide +kernel
theorem dX3_keep_21 : decode cX3_keep 21 = .ok (.getfield 18, 3) := by decide +kernel
theorem dX3_keep_24 : decode cX3_keep 24 = .ok (.aload_n 0, 1) := by decide +kernel
theorem dX3_keep_25 : decode cX3_keep 25 = .ok (.getfield 27, 3) := by decide +kernel
theorem dX3_keep_28 : decode cX3_keep 28 = .ok (.iload_n 3, 1) := by decide +kernel
theorem dX3_keep_29 : decode cX3_keep 29 = .ok (.iastore, 1) := by decide +kernel
theorem dX3_keep_30 : decode cX3_keep 30 = .ok (.aload_n 0, 1) := by decide +kernel
theorem dX3_keep_31 : decode cX3_keep 31 = .ok (.getfield 21, 3) := by decide +kernel
theorem dX3_keep_34 : decode cX3_keep 34 = .ok (.aload_n 0, 1) := by decide +kernel
theorem dX3_keep_35 : decode cX3_keep 35 = .ok (.getfield 27, 3) := by decide +kernel
theorem dX3_keep_38 : decode cX3_keep 38 = .ok (.iload 4, 2) := by decide +kernel
theorem dX3_keep_40 : decode cX3_keep 40 = .ok (.iastore, 1) := by decide +kernel
theorem dX3_keep_41 : decode cX3_keep 41 = .ok (.aload_n 0, 1) := by decide +kernel
theorem dX3_keep_42 : decode cX3_keep 42 = .ok (.getfield 24, 3) := by decide +kernel
theorem dX3_keep_45 : decode cX3_keep 45 = .ok (.aload_n 0, 1) := by decide +kernel
theorem dX3_keep_46 : decode cX3_keep 46 = .ok (.getfield 27, 3) := by decide +kernel
theorem dX3_keep_49 : decode cX3_keep 49 = .ok (.iload 5, 2) := by decide +kernel
theorem dX3_keep_51 : decode cX3_keep 51 = .ok (.iastore, 1) := by decide +kernel
theorem dX3_keep_52 : decode cX3_keep 52 = .ok (.aload_n 0, 1) := by decide +kernel
theorem dX3_keep_53 : decode cX3_keep 53 = .ok (.aload_n 0, 1) := by decide +kernel
theorem dX3_keep_54 : decode cX3_keep 54 = .ok (.getfield 27, 3) := by decide +kernel
theorem dX3_keep_57 : decode cX3_keep 57 = .ok (.iconst 1, 1) := by decide +kernel
theorem dX3_keep_58 : decode cX3_keep 58 = .ok (.iadd, 1) := by decide +kernel
theorem dX3_keep_59 : decode cX3_keep 59 = .ok (.bipush 30, 2) := by decide +kernel
theorem dX3_keep_61 : decode cX3_keep 61 = .ok (.irem, 1) := by decide +kernel
theorem dX3_keep_62 : decode cX3_keep 62 = .ok (.putfield 27, 3) := by decide +kernel
theorem dX3_keep_65 : decode cX3_keep 65 = .ok (.aload_n 0, 1) := by decide +kernel
theorem dX3_keep_66 : decode cX3_keep 66 = .ok (.aload_n 0, 1) := by decide +kernel
theorem dX3_keep_67 : decode cX3_keep 67 = .ok (.getfield 31, 3) := by decide +kernel
theorem dX3_keep_70 : decode cX3_keep 70 = .ok (.iconst 1, 1) := by decide +kernel
theorem dX3_keep_71 : decode cX3_keep 71 = .ok (.iadd, 1) := by decide +kernel
theorem dX3_keep_72 : decode cX3_keep 72 = .ok (.bipush 30, 2) := by decide +kernel
theorem dX3_keep_74 : decode cX3_keep 74 = .ok (.invokestatic 34, 3) := by decide +kernel
theorem dX3_keep_77 : decode cX3_keep 77 = .ok (.putfield 31, 3) := by decide +kernel
theorem dX3_keep_80 : decode cX3_keep 80 = .ok (.return_, 1) := by decide +kernel
theorem dX3_stepBack_0 : decode cX3_stepBack 0 = .ok (.aload_n 0, 1) := by decide +kernel
theorem dX3_stepBack_1 : decode cX3_stepBack 1 = .ok (.aload_n 0, 1) := by decide +kernel
theorem dX3_stepBack_2 : decode cX3_stepBack 2 = .ok (.getfield 27, 3) := by decide +kernel
theorem dX3_stepBack_5 : decode cX3_stepBack 5 = .ok (.bipush 30, 2) := by decide +kernel
theorem dX3_stepBack_7 : decode cX3_stepBack 7 = .ok (.iadd, 1) := by decide +kernel
theorem dX3_stepBack_8 : decode cX3_stepBack 8 = .ok (.iconst 1, 1) := by decide +kernel
theorem dX3_stepBack_9 : decode cX3_stepBack 9 = .ok (.isub, 1) := by decide +kernel
theorem dX3_stepBack_10 : decode cX3_stepBack 10 = .ok (.bipush 30, 2) := by decide +kernel
theorem dX3_stepBack_12 : decode cX3_stepBack 12 = .ok (.irem, 1) := by decide +kernel
theorem dX3_stepBack_13 : decode cX3_stepBack 13 = .ok (.putfield 27, 3) := by decide +kernel
theorem dX3_stepBack_16 : decode cX3_stepBack 16 = .ok (.aload_n 0, 1) := by decide +kernel
theorem dX3_stepBack_17 : decode cX3_stepBack 17 = .ok (.dup, 1) := by decide +kernel
theorem dX3_stepBack_18 : decode cX3_stepBack 18 = .ok (.getfield 31, 3) := by decide +kernel
theorem dX3_stepBack_21 : decode cX3_stepBack 21 = .ok (.iconst 1, 1) := by decide +kernel
theorem dX3_stepBack_22 : decode cX3_stepBack 22 = .ok (.isub, 1) := by decide +kernel
theorem dX3_stepBack_23 : decode cX3_stepBack 23 = .ok (.putfield 31, 3) := by decide +kernel
theorem dX3_stepBack_26 : decode cX3_stepBack 26 = .ok (.return_, 1) := by decide +kernel
theorem dX4_init_0 : decode cX4_init 0 = .ok (.aload_n 0, 1) := by decide +kernel
theorem dX4_init_1 : decode cX4_init 1 = .ok (.invokespecial 3, 3) := by decide +kernel
theorem dX4_init_4 : decode cX4_init 4 = .ok (.aload_n 0, 1) := by decide +kernel
theorem dX4_init_5 : decode cX4_init 5 = .ok (.bipush 12, 2) := by decide +kernel
theorem dX4_init_7 : decode cX4_init 7 = .ok (.newarray .int, 2) := by decide +kernel
theorem dX4_init_9 : decode cX4_init 9 = .ok (.putfield 9, 3) := by decide +kernel
theorem dX4_init_12 : decode cX4_init 12 = .ok (.aload_n 0, 1) := by decide +kernel
theorem dX4_init_13 : decode cX4_init 13 = .ok (.bipush 12, 2) := by decide +kernel
theorem dX4_init_15 : decode cX4_init 15 = .ok (.newarray .int, 2) := by decide +kernel
theorem dX4_init_17 : decode cX4_init 17 = .ok (.putfield 15, 3) := by decide +kernel
theorem dX4_init_20 : decode cX4_init 20 = .ok (.aload_n 0, 1) := by decide +kernel
theorem dX4_init_21 : decode cX4_init 21 = .ok (.bipush 12, 2) := by decide +kernel
theorem dX4_init_23 : decode cX4_init 23 = .ok (.newarray .int, 2) := by decide +kernel
theorem dX4_init_25 : decode cX4_init 25 = .ok (.putfield 18, 3) := by decide +kernel
theorem dX4_init_28 : decode cX4_init 28 = .ok (.aload_n 0, 1) := by decide +kernel
theorem dX4_init_29 : decode cX4_init 29 = .ok (.bipush 12, 2) := by decide +kernel
theorem dX4_init_31 : decode cX4_init 31 = .ok (.newarray .int, 2) := by decide +kernel
theorem dX4_init_33 : decode cX4_init 33 = .ok (.putfield 21, 3) := by decide +kernel
theorem dX4_init_36 : decode cX4_init 36 = .ok (.return_, 1) := by decide +kernel
theorem dX4_append_0 : decode cX4_append 0 = .ok (.aload_n 0, 1) := by decide +kernel
theorem dX4_append_1 : decode cX4_append 1 = .ok (.getfield 24, 3) := by decide +kernel
theorem dX4_append_4 : decode cX4_append 4 = .ok (.istore 5, 2) := by decide +kernel
theorem dX4_append_6 : decode cX4_append 6 = .ok (.iload 5, 2) := by decide +kernel
theorem dX4_append_8 : decode cX4_append 8 = .ok (.bipush 12, 2) := by decide +kernel
theorem dX4_append_10 : decode cX4_append 10 = .ok (.if_icmp .ge 46, 3) := by decide +kernel
theorem dX4_append_13 : decode cX4_append 13 = .ok (.aload_n 0, 1) := by decide +kernel
theorem dX4_append_14 : decode cX4_append 14 = .ok (.getfield 9, 3) := by decide +kernel
theorem dX4_append_17 : decode cX4_append 17 = .ok (.iload 5, 2) := by decide +kernel
theorem dX4_append_19 : decode cX4_append 19 = .ok (.iload_n 1, 1) := by decide +kernel
theorem dX4_append_20 : decode cX4_append 20 = .ok (.iastore, 1) := by decide +kernel
theorem dX4_append_21 : decode cX4_append 21 = .ok (.aload_n 0, 1) := by decide +kernel
theorem dX4_append_22 : decode cX4_append 22 = .ok (.getfield 15, 3) := by decide +kernel
theorem dX4_append_25 : decode cX4_append 25 = .ok (.iload 5, 2) := by decide +kernel
theorem dX4_append_27 : decode cX4_append 27 = .ok (.iload_n 2, 1) := by decide +kernel
theorem dX4_append_28 : decode cX4_append 28 = .ok (.iastore, 1) := by decide +kernel
theorem dX4_append_29 : decode cX4_append 29 = .ok (.aload_n 0, 1) := by decide +kernel
theorem dX4_append_30 : decode cX4_append 30 = .ok (.getfield 18, 3) := by decide +kernel
theorem dX4_append_33 : decode cX4_append 33 = .ok (.iload 5, 2) := by decide +kernel
theorem dX4_append_35 : decode cX4_append 35 = .ok (.iload_n 3, 1) := by decide +kernel
theorem dX4_append_36 : decode cX4_append 36 = .ok (.iastore, 1) := by decide +kernel
theorem dX4_append_37 : decode cX4_append 37 = .ok (.aload_n 0, 1) := by decide +kernel
theorem dX4_append_38 : decode cX4_append 38 = .ok (.getfield 21, 3) := by decide +kernel
theorem dX4_append_41 : decode cX4_append 41 = .ok (.iload 5, 2) := by decide +kernel
theorem dX4_append_43 : decode cX4_append 43 = .ok (.iload 4, 2) := by decide +kernel
theorem dX4_append_45 : decode cX4_append 45 = .ok (.iastore, 1) := by decide +kernel
theorem dX4_append_46 : decode cX4_append 46 = .ok (.aload_n 0, 1) := by decide +kernel
theorem dX4_append_47 : decode cX4_append 47 = .ok (.dup, 1) := by decide +kernel
theorem dX4_append_48 : decode cX4_append 48 = .ok (.getfield 24, 3) := by decide +kernel
theorem dX4_append_51 : decode cX4_append 51 = .ok (.iconst 1, 1) := by decide +kernel
theorem dX4_append_52 : decode cX4_append 52 = .ok (.iadd, 1) := by decide +kernel
theorem dX4_append_53 : decode cX4_append 53 = .ok (.putfield 24, 3) := by decide +kernel
theorem dX4_append_56 : decode cX4_append 56 = .ok (.iload 5, 2) := by decide +kernel
theorem dX4_append_58 : decode cX4_append 58 = .ok (.ireturn, 1) := by decide +kernel
theorem dX5_init_0 : decode cX5_init 0 = .ok (.aload_n 0, 1) := by decide +kernel
theorem dX5_init_1 : decode cX5_init 1 = .ok (.invokespecial 3, 3) := by decide +kernel
theorem dX5_init_4 : decode cX5_init 4 = .ok (.aload_n 0, 1) := by decide +kernel
theorem dX5_init_5 : decode cX5_init 5 = .ok (.bipush 8, 2) := by decide +kernel
theorem dX5_init_7 : decode cX5_init 7 = .ok (.newarray .int, 2) := by decide +kernel
theorem dX5_init_9 : decode cX5_init 9 = .ok (.putfield 9, 3) := by decide +kernel
theorem dX5_init_12 : decode cX5_init 12 = .ok (.aload_n 0, 1) := by decide +kernel
theorem dX5_init_13 : decode cX5_init 13 = .ok (.bipush 80, 2) := by decide +kernel
theorem dX5_init_15 : decode cX5_init 15 = .ok (.newarray .int, 2) := by decide +kernel
theorem dX5_init_17 : decode cX5_init 17 = .ok (.putfield 15, 3) := by decide +kernel
theorem dX5_init_20 : decode cX5_init 20 = .ok (.aload_n 0, 1) := by decide +kernel
theorem dX5_init_21 : decode cX5_init 21 = .ok (.bipush 80, 2) := by decide +kernel
theorem dX5_init_23 : decode cX5_init 23 = .ok (.newarray .int, 2) := by decide +kernel
theorem dX5_init_25 : decode cX5_init 25 = .ok (.putfield 18, 3) := by decide +kernel
theorem dX5_init_28 : decode cX5_init 28 = .ok (.return_, 1) := by decide +kernel
theorem dX5_place_0 : decode cX5_place 0 = .ok (.iload_n 0, 1) := by decide +kernel
theorem dX5_place_1 : decode cX5_place 1 = .ok (.bipush 10, 2) := by decide +kernel
theorem dX5_place_3 : decode cX5_place 3 = .ok (.imul, 1) := by decide +kernel
theorem dX5_place_4 : decode cX5_place 4 = .ok (.iload_n 1, 1) := by decide +kernel
theorem dX5_place_5 : decode cX5_place 5 = .ok (.iadd, 1) := by decide +kernel
theorem dX5_place_6 : decode cX5_place 6 = .ok (.ireturn, 1) := by decide +kernel
theorem dX5_appendFigure_0 : decode cX5_appendFigure 0 = .ok (.aload_n 0, 1) := by decide +kernel
theorem dX5_appendFigure_1 : decode cX5_appendFigure 1 = .ok (.getfield 21, 3) := by decide +kernel
theorem dX5_appendFigure_4 : decode cX5_appendFigure 4 = .ok (.istore_n 1, 1) := by decide +kernel
theorem dX5_appendFigure_5 : decode cX5_appendFigure 5 = .ok (.iload_n 1, 1) := by decide +kernel
theorem dX5_appendFigure_6 : decode cX5_appendFigure 6 = .ok (.bipush 8, 2) := by decide +kernel
theorem dX5_appendFigure_8 : decode cX5_appendFigure 8 = .ok (.if_icmp .ge 13, 3) := by decide +kernel
theorem dX5_appendFigure_11 : decode cX5_appendFigure 11 = .ok (.aload_n 0, 1) := by decide +kernel
theorem dX5_appendFigure_12 : decode cX5_appendFigure 12 = .ok (.dup, 1) := by decide +kernel
theorem dX5_appendFigure_13 : decode cX5_appendFigure 13 = .ok (.getfield 21, 3) := by decide +kernel
theorem dX5_appendFigure_16 : decode cX5_appendFigure 16 = .ok (.iconst 1, 1) := by decide +kernel
theorem dX5_appendFigure_17 : decode cX5_appendFigure 17 = .ok (.iadd, 1) := by decide +kernel
theorem dX5_appendFigure_18 : decode cX5_appendFigure 18 = .ok (.putfield 21, 3) := by decide +kernel
theorem dX5_appendFigure_21 : decode cX5_appendFigure 21 = .ok (.iload_n 1, 1) := by decide +kernel
theorem dX5_appendFigure_22 : decode cX5_appendFigure 22 = .ok (.ireturn, 1) := by decide +kernel
theorem dX5_joins_0 : decode cX5_joins 0 = .ok (.iconst 0, 1) := by decide +kernel
theorem dX5_joins_1 : decode cX5_joins 1 = .ok (.istore 4, 2) := by decide +kernel
theorem dX5_joins_3 : decode cX5_joins 3 = .ok (.iload 4, 2) := by decide +kernel
theorem dX5_joins_5 : decode cX5_joins 5 = .ok (.aload_n 0, 1) := by decide +kernel
theorem dX5_joins_6 : decode cX5_joins 6 = .ok (.getfield 9, 3) := by decide +kernel
theorem dX5_joins_9 : decode cX5_joins 9 = .ok (.iload_n 1, 1) := by decide +kernel
theorem dX5_joins_10 : decode cX5_joins 10 = .ok (.iaload, 1) := by decide +kernel
theorem dX5_joins_11 : decode cX5_joins 11 = .ok (.if_icmp .ge 87, 3) := by decide +kernel
theorem dX5_joins_14 : decode cX5_joins 14 = .ok (.iload_n 1, 1) := by decide +kernel
theorem dX5_joins_15 : decode cX5_joins 15 = .ok (.iload 4, 2) := by decide +kernel
theorem dX5_joins_17 : decode cX5_joins 17 = .ok (.invokestatic 25, 3) := by decide +kernel
theorem dX5_joins_20 : decode cX5_joins 20 = .ok (.istore 5, 2) := by decide +kernel
theorem dX5_joins_22 : decode cX5_joins 22 = .ok (.aload_n 0, 1) := by decide +kernel
theorem dX5_joins_23 : decode cX5_joins 23 = .ok (.getfield 15, 3) := by decide +kernel
theorem dX5_joins_26 : decode cX5_joins 26 = .ok (.iload 5, 2) := by decide +kernel
theorem dX5_joins_28 : decode cX5_joins 28 = .ok (.iaload, 1) := by decide +kernel
theorem dX5_joins_29 : decode cX5_joins 29 = .ok (.iload_n 2, 1) := by decide +kernel
theorem dX5_joins_30 : decode cX5_joins 30 = .ok (.if_icmp .ne 18, 3) := by decide +kernel
theorem dX5_joins_33 : decode cX5_joins 33 = .ok (.aload_n 0, 1) := by decide +kernel
theorem dX5_joins_34 : decode cX5_joins 34 = .ok (.getfield 18, 3) := by decide +kernel
theorem dX5_joins_37 : decode cX5_joins 37 = .ok (.iload 5, 2) := by decide +kernel
theorem dX5_joins_39 : decode cX5_joins 39 = .ok (.iaload, 1) := by decide +kernel
theorem dX5_joins_40 : decode cX5_joins 40 = .ok (.iload_n 3, 1) := by decide +kernel
theorem dX5_joins_41 : decode cX5_joins 41 = .ok (.if_icmp .ne 7, 3) := by decide +kernel
theorem dX5_joins_44 : decode cX5_joins 44 = .ok (.iconst 1, 1) := by decide +kernel
theorem dX5_joins_45 : decode cX5_joins 45 = .ok (.goto 4, 3) := by decide +kernel
theorem dX5_joins_48 : decode cX5_joins 48 = .ok (.iconst 0, 1) := by decide +kernel
theorem dX5_joins_49 : decode cX5_joins 49 = .ok (.istore 6, 2) := by decide +kernel
theorem dX5_joins_51 : decode cX5_joins 51 = .ok (.aload_n 0, 1) := by decide +kernel
theorem dX5_joins_52 : decode cX5_joins 52 = .ok (.getfield 15, 3) := by decide +kernel
theorem dX5_joins_55 : decode cX5_joins 55 = .ok (.iload 5, 2) := by decide +kernel
theorem dX5_joins_57 : decode cX5_joins 57 = .ok (.iaload, 1) := by decide +kernel
theorem dX5_joins_58 : decode cX5_joins 58 = .ok (.iload_n 3, 1) := by decide +kernel
theorem dX5_joins_59 : decode cX5_joins 59 = .ok (.if_icmp .ne 18, 3) := by decide +kernel
theorem dX5_joins_62 : decode cX5_joins 62 = .ok (.aload_n 0, 1) := by decide +kernel
theorem dX5_joins_63 : decode cX5_joins 63 = .ok (.getfield 18, 3) := by decide +kernel
theorem dX5_joins_66 : decode cX5_joins 66 = .ok (.iload 5, 2) := by decide +kernel
theorem dX5_joins_68 : decode cX5_joins 68 = .ok (.iaload, 1) := by decide +kernel
theorem dX5_joins_69 : decode cX5_joins 69 = .ok (.iload_n 2, 1) := by decide +kernel
theorem dX5_joins_70 : decode cX5_joins 70 = .ok (.if_icmp .ne 7, 3) := by decide +kernel
theorem dX5_joins_73 : decode cX5_joins 73 = .ok (.iconst 1, 1) := by decide +kernel
theorem dX5_joins_74 : decode cX5_joins 74 = .ok (.goto 4, 3) := by decide +kernel
theorem dX5_joins_77 : decode cX5_joins 77 = .ok (.iconst 0, 1) := by decide +kernel
theorem dX5_joins_78 : decode cX5_joins 78 = .ok (.istore 7, 2) := by decide +kernel
theorem dX5_joins_80 : decode cX5_joins 80 = .ok (.iload 6, 2) := by decide +kernel
theorem dX5_joins_82 : decode cX5_joins 82 = .ok (.ifCond .ne 8, 3) := by decide +kernel
theorem dX5_joins_85 : decode cX5_joins 85 = .ok (.iload 7, 2) := by decide +kernel
theorem dX5_joins_87 : decode cX5_joins 87 = .ok (.ifCond .eq 5, 3) := by decide +kernel
theorem dX5_joins_90 : decode cX5_joins 90 = .ok (.iconst 1, 1) := by decide +kernel
theorem dX5_joins_91 : decode cX5_joins 91 = .ok (.ireturn, 1) := by decide +kernel
theorem dX5_joins_92 : decode cX5_joins 92 = .ok (.iinc 4 1, 3) := by decide +kernel
theorem dX5_joins_95 : decode cX5_joins 95 = .ok (.goto (-92), 3) := by decide +kernel
theorem dX5_joins_98 : decode cX5_joins 98 = .ok (.iconst 0, 1) := by decide +kernel
theorem dX5_joins_99 : decode cX5_joins 99 = .ok (.ireturn, 1) := by decide +kernel
theorem dX5_ownerOf_0 : decode cX5_ownerOf 0 = .ok (.iconst 0, 1) := by decide +kernel
theorem dX5_ownerOf_1 : decode cX5_ownerOf 1 = .ok (.istore_n 2, 1) := by decide +kernel
theorem dX5_ownerOf_2 : decode cX5_ownerOf 2 = .ok (.iload_n 2, 1) := by decide +kernel
theorem dX5_ownerOf_3 : decode cX5_ownerOf 3 = .ok (.aload_n 0, 1) := by decide +kernel
theorem dX5_ownerOf_4 : decode cX5_ownerOf 4 = .ok (.getfield 21, 3) := by decide +kernel
theorem dX5_ownerOf_7 : decode cX5_ownerOf 7 = .ok (.if_icmp .ge 20, 3) := by decide +kernel
theorem dX5_ownerOf_10 : decode cX5_ownerOf 10 = .ok (.aload_n 0, 1) := by decide +kernel
theorem dX5_ownerOf_11 : decode cX5_ownerOf 11 = .ok (.iload_n 2, 1) := by decide +kernel
theorem dX5_ownerOf_12 : decode cX5_ownerOf 12 = .ok (.iload_n 1, 1) := by decide +kernel
theorem dX5_ownerOf_13 : decode cX5_ownerOf 13 = .ok (.invokevirtual 29, 3) := by decide +kernel
theorem dX5_ownerOf_16 : decode cX5_ownerOf 16 = .ok (.ifCond .eq 5, 3) := by decide +kernel
theorem dX5_ownerOf_19 : decode cX5_ownerOf 19 = .ok (.iload_n 2, 1) := by decide +kernel
theorem dX5_ownerOf_20 : decode cX5_ownerOf 20 = .ok (.ireturn, 1) := by decide +kernel
theorem dX5_ownerOf_21 : decode cX5_ownerOf 21 = .ok (.iinc 2 1, 3) := by decide +kernel
theorem dX5_ownerOf_24 : decode cX5_ownerOf 24 = .ok (.goto (-22), 3) := by decide +kernel
theorem dX5_ownerOf_27 : decode cX5_ownerOf 27 = .ok (.iconst (-1), 1) := by decide +kernel
theorem dX5_ownerOf_28 : decode cX5_ownerOf 28 = .ok (.ireturn, 1) := by decide +kernel
theorem dX5_isOfAnother_0 : decode cX5_isOfAnother 0 = .ok (.aload_n 0, 1) := by decide +kernel
theorem dX5_isOfAnother_1 : decode cX5_isOfAnother 1 = .ok (.iload_n 2, 1) := by decide +kernel
theorem dX5_isOfAnother_2 : decode cX5_isOfAnother 2 = .ok (.invokevirtual 33, 3) := by decide +kernel
theorem dX5_isOfAnother_5 : decode cX5_isOfAnother 5 = .ok (.istore_n 3, 1) := by decide +kernel
theorem dX5_isOfAnother_6 : decode cX5_isOfAnother 6 = .ok (.iload_n 3, 1) := by decide +kernel
theorem dX5_isOfAnother_7 : decode cX5_isOfAnother 7 = .ok (.iconst (-1), 1) := by decide +kernel
theorem dX5_isOfAnother_8 : decode cX5_isOfAnother 8 = .ok (.if_icmp .eq 12, 3) := by decide +kernel
theorem dX5_isOfAnother_11 : decode cX5_isOfAnother 11 = .ok (.iload_n 3, 1) := by decide +kernel
theorem dX5_isOfAnother_12 : decode cX5_isOfAnother 12 = .ok (.iload_n 1, 1) := by decide +kernel
theorem dX5_isOfAnother_13 : decode cX5_isOfAnother 13 = .ok (.if_icmp .eq 7, 3) := by decide +kernel
theorem dX5_isOfAnother_16 : decode cX5_isOfAnother 16 = .ok (.iconst 1, 1) := by decide +kernel
theorem dX5_isOfAnother_17 : decode cX5_isOfAnother 17 = .ok (.goto 4, 3) := by decide +kernel
theorem dX5_isOfAnother_20 : decode cX5_isOfAnother 20 = .ok (.iconst 0, 1) := by decide +kernel
theorem dX5_isOfAnother_21 : decode cX5_isOfAnother 21 = .ok (.ireturn, 1) := by decide +kernel
theorem dX5_insert_0 : decode cX5_insert 0 = .ok (.aload_n 0, 1) := by decide +kernel
theorem dX5_insert_1 : decode cX5_insert 1 = .ok (.getfield 9, 3) := by decide +kernel
theorem dX5_insert_4 : decode cX5_insert 4 = .ok (.iload_n 1, 1) := by decide +kernel
theorem dX5_insert_5 : decode cX5_insert 5 = .ok (.iaload, 1) := by decide +kernel
theorem dX5_insert_6 : decode cX5_insert 6 = .ok (.istore 5, 2) := by decide +kernel
theorem dX5_insert_8 : decode cX5_insert 8 = .ok (.iload_n 2, 1) := by decide +kernel
theorem dX5_insert_9 : decode cX5_insert 9 = .ok (.ifCond .lt 16, 3) := by decide +kernel
theorem dX5_insert_12 : decode cX5_insert 12 = .ok (.iload_n 2, 1) := by decide +kernel
theorem dX5_insert_13 : decode cX5_insert 13 = .ok (.iload 5, 2) := by decide +kernel
theorem dX5_insert_15 : decode cX5_insert 15 = .ok (.if_icmp .gt 10, 3) := by decide +kernel
theorem dX5_insert_18 : decode cX5_insert 18 = .ok (.iload 5, 2) := by decide +kernel
theorem dX5_insert_20 : decode cX5_insert 20 = .ok (.bipush 10, 2) := by decide +kernel
theorem dX5_insert_22 : decode cX5_insert 22 = .ok (.if_icmp .lt 4, 3) := by decide +kernel
theorem dX5_insert_25 : decode cX5_insert 25 = .ok (.return_, 1) := by decide +kernel
theorem dX5_insert_26 : decode cX5_insert 26 = .ok (.iload_n 1, 1) := by decide +kernel
theorem dX5_insert_27 : decode cX5_insert 27 = .ok (.iload 5, 2) := by decide +kernel
theorem dX5_insert_29 : decode cX5_insert 29 = .ok (.invokestatic 25, 3) := by decide +kernel
theorem dX5_insert_32 : decode cX5_insert 32 = .ok (.istore 6, 2) := by decide +kernel
theorem dX5_insert_34 : decode cX5_insert 34 = .ok (.iload 6, 2) := by decide +kernel
theorem dX5_insert_36 : decode cX5_insert 36 = .ok (.iload_n 1, 1) := by decide +kernel
theorem dX5_insert_37 : decode cX5_insert 37 = .ok (.iload_n 2, 1) := by decide +kernel
theorem dX5_insert_38 : decode cX5_insert 38 = .ok (.invokestatic 25, 3) := by decide +kernel
theorem dX5_insert_41 : decode cX5_insert 41 = .ok (.if_icmp .le 41, 3) := by decide +kernel
theorem dX5_insert_44 : decode cX5_insert 44 = .ok (.aload_n 0, 1) := by decide +kernel
theorem dX5_insert_45 : decode cX5_insert 45 = .ok (.getfield 15, 3) := by decide +kernel
theorem dX5_insert_48 : decode cX5_insert 48 = .ok (.iload 6, 2) := by decide +kernel
theorem dX5_insert_50 : decode cX5_insert 50 = .ok (.aload_n 0, 1) := by decide +kernel
theorem dX5_insert_51 : decode cX5_insert 51 = .ok (.getfield 15, 3) := by decide +kernel
theorem dX5_insert_54 : decode cX5_insert 54 = .ok (.iload 6, 2) := by decide +kernel
theorem dX5_insert_56 : decode cX5_insert 56 = .ok (.iconst 1, 1) := by decide +kernel
theorem dX5_insert_57 : decode cX5_insert 57 = .ok (.isub, 1) := by decide +kernel
theorem dX5_insert_58 : decode cX5_insert 58 = .ok (.iaload, 1) := by decide +kernel
theorem dX5_insert_59 : decode cX5_insert 59 = .ok (.iastore, 1) := by decide +kernel
theorem dX5_insert_60 : decode cX5_insert 60 = .ok (.aload_n 0, 1) := by decide +kernel
theorem dX5_insert_61 : decode cX5_insert 61 = .ok (.getfield 18, 3) := by decide +kernel
theorem dX5_insert_64 : decode cX5_insert 64 = .ok (.iload 6, 2) := by decide +kernel
theorem dX5_insert_66 : decode cX5_insert 66 = .ok (.aload_n 0, 1) := by decide +kernel
theorem dX5_insert_67 : decode cX5_insert 67 = .ok (.getfield 18, 3) := by decide +kernel
theorem dX5_insert_70 : decode cX5_insert 70 = .ok (.iload 6, 2) := by decide +kernel
theorem dX5_insert_72 : decode cX5_insert 72 = .ok (.iconst 1, 1) := by decide +kernel
theorem dX5_insert_73 : decode cX5_insert 73 = .ok (.isub, 1) := by decide +kernel
theorem dX5_insert_74 : decode cX5_insert 74 = .ok (.iaload, 1) := by decide +kernel
theorem dX5_insert_75 : decode cX5_insert 75 = .ok (.iastore, 1) := by decide +kernel
theorem dX5_insert_76 : decode cX5_insert 76 = .ok (.iinc 6 (-1), 3) := by decide +kernel
theorem dX5_insert_79 : decode cX5_insert 79 = .ok (.goto (-45), 3) := by decide +kernel
theorem dX5_insert_82 : decode cX5_insert 82 = .ok (.aload_n 0, 1) := by decide +kernel
theorem dX5_insert_83 : decode cX5_insert 83 = .ok (.getfield 15, 3) := by decide +kernel
theorem dX5_insert_86 : decode cX5_insert 86 = .ok (.iload_n 1, 1) := by decide +kernel
theorem dX5_insert_87 : decode cX5_insert 87 = .ok (.iload_n 2, 1) := by decide +kernel
theorem dX5_insert_88 : decode cX5_insert 88 = .ok (.invokestatic 25, 3) := by decide +kernel
theorem dX5_insert_91 : decode cX5_insert 91 = .ok (.iload_n 3, 1) := by decide +kernel
theorem dX5_insert_92 : decode cX5_insert 92 = .ok (.iastore, 1) := by decide +kernel
theorem dX5_insert_93 : decode cX5_insert 93 = .ok (.aload_n 0, 1) := by decide +kernel
theorem dX5_insert_94 : decode cX5_insert 94 = .ok (.getfield 18, 3) := by decide +kernel
theorem dX5_insert_97 : decode cX5_insert 97 = .ok (.iload_n 1, 1) := by decide +kernel
theorem dX5_insert_98 : decode cX5_insert 98 = .ok (.iload_n 2, 1) := by decide +kernel
theorem dX5_insert_99 : decode cX5_insert 99 = .ok (.invokestatic 25, 3) := by decide +kernel
theorem dX5_insert_102 : decode cX5_insert 102 = .ok (.iload 4, 2) := by decide +kernel
theorem dX5_insert_104 : decode cX5_insert 104 = .ok (.iastore, 1) := by decide +kernel
theorem dX5_insert_105 : decode cX5_insert 105 = .ok (.aload_n 0, 1) := by decide +kernel
theorem dX5_insert_106 : decode cX5_insert 106 = .ok (.getfield 9, 3) := by decide +kernel
theorem dX5_insert_109 : decode cX5_insert 109 = .ok (.iload_n 1, 1) := by decide +kernel
theorem dX5_insert_110 : decode cX5_insert 110 = .ok (.iload 5, 2) := by decide +kernel
theorem dX5_insert_112 : decode cX5_insert 112 = .ok (.iconst 1, 1) := by decide +kernel
theorem dX5_insert_113 : decode cX5_insert 113 = .ok (.iadd, 1) := by decide +kernel
theorem dX5_insert_114 : decode cX5_insert 114 = .ok (.iastore, 1) := by decide +kernel
theorem dX5_insert_115 : decode cX5_insert 115 = .ok (.return_, 1) := by decide +kernel
theorem dX5_remove_0 : decode cX5_remove 0 = .ok (.aload_n 0, 1) := by decide +kernel
theorem dX5_remove_1 : decode cX5_remove 1 = .ok (.getfield 9, 3) := by decide +kernel
theorem dX5_remove_4 : decode cX5_remove 4 = .ok (.iload_n 1, 1) := by decide +kernel
theorem dX5_remove_5 : decode cX5_remove 5 = .ok (.iaload, 1) := by decide +kernel
theorem dX5_remove_6 : decode cX5_remove 6 = .ok (.istore_n 3, 1) := by decide +kernel
theorem dX5_remove_7 : decode cX5_remove 7 = .ok (.iload_n 2, 1) := by decide +kernel
theorem dX5_remove_8 : decode cX5_remove 8 = .ok (.ifCond .lt 8, 3) := by decide +kernel
theorem dX5_remove_11 : decode cX5_remove 11 = .ok (.iload_n 2, 1) := by decide +kernel
theorem dX5_remove_12 : decode cX5_remove 12 = .ok (.iload_n 3, 1) := by decide +kernel
theorem dX5_remove_13 : decode cX5_remove 13 = .ok (.if_icmp .lt 4, 3) := by decide +kernel
theorem dX5_remove_16 : decode cX5_remove 16 = .ok (.return_, 1) := by decide +kernel
theorem dX5_remove_17 : decode cX5_remove 17 = .ok (.iload_n 1, 1) := by decide +kernel
theorem dX5_remove_18 : decode cX5_remove 18 = .ok (.iload_n 2, 1) := by decide +kernel
theorem dX5_remove_19 : decode cX5_remove 19 = .ok (.invokestatic 25, 3) := by decide +kernel
theorem dX5_remove_22 : decode cX5_remove 22 = .ok (.istore 4, 2) := by decide +kernel
theorem dX5_remove_24 : decode cX5_remove 24 = .ok (.iload 4, 2) := by decide +kernel
theorem dX5_remove_26 : decode cX5_remove 26 = .ok (.iload_n 1, 1) := by decide +kernel
theorem dX5_remove_27 : decode cX5_remove 27 = .ok (.iload_n 3, 1) := by decide +kernel
theorem dX5_remove_28 : decode cX5_remove 28 = .ok (.iconst 1, 1) := by decide +kernel
theorem dX5_remove_29 : decode cX5_remove 29 = .ok (.isub, 1) := by decide +kernel
theorem dX5_remove_30 : decode cX5_remove 30 = .ok (.invokestatic 25, 3) := by decide +kernel
theorem dX5_remove_33 : decode cX5_remove 33 = .ok (.if_icmp .ge 41, 3) := by decide +kernel
theorem dX5_remove_36 : decode cX5_remove 36 = .ok (.aload_n 0, 1) := by decide +kernel
theorem dX5_remove_37 : decode cX5_remove 37 = .ok (.getfield 15, 3) := by decide +kernel
theorem dX5_remove_40 : decode cX5_remove 40 = .ok (.iload 4, 2) := by decide +kernel
theorem dX5_remove_42 : decode cX5_remove 42 = .ok (.aload_n 0, 1) := by decide +kernel
theorem dX5_remove_43 : decode cX5_remove 43 = .ok (.getfield 15, 3) := by decide +kernel
theorem dX5_remove_46 : decode cX5_remove 46 = .ok (.iload 4, 2) := by decide +kernel
theorem dX5_remove_48 : decode cX5_remove 48 = .ok (.iconst 1, 1) := by decide +kernel
theorem dX5_remove_49 : decode cX5_remove 49 = .ok (.iadd, 1) := by decide +kernel
theorem dX5_remove_50 : decode cX5_remove 50 = .ok (.iaload, 1) := by decide +kernel
theorem dX5_remove_51 : decode cX5_remove 51 = .ok (.iastore, 1) := by decide +kernel
theorem dX5_remove_52 : decode cX5_remove 52 = .ok (.aload_n 0, 1) := by decide +kernel
theorem dX5_remove_53 : decode cX5_remove 53 = .ok (.getfield 18, 3) := by decide +kernel
theorem dX5_remove_56 : decode cX5_remove 56 = .ok (.iload 4, 2) := by decide +kernel
theorem dX5_remove_58 : decode cX5_remove 58 = .ok (.aload_n 0, 1) := by decide +kernel
theorem dX5_remove_59 : decode cX5_remove 59 = .ok (.getfield 18, 3) := by decide +kernel
theorem dX5_remove_62 : decode cX5_remove 62 = .ok (.iload 4, 2) := by decide +kernel
theorem dX5_remove_64 : decode cX5_remove 64 = .ok (.iconst 1, 1) := by decide +kernel
theorem dX5_remove_65 : decode cX5_remove 65 = .ok (.iadd, 1) := by decide +kernel
theorem dX5_remove_66 : decode cX5_remove 66 = .ok (.iaload, 1) := by decide +kernel
theorem dX5_remove_67 : decode cX5_remove 67 = .ok (.iastore, 1) := by decide +kernel
theorem dX5_remove_68 : decode cX5_remove 68 = .ok (.iinc 4 1, 3) := by decide +kernel
theorem dX5_remove_71 : decode cX5_remove 71 = .ok (.goto (-47), 3) := by decide +kernel
theorem dX5_remove_74 : decode cX5_remove 74 = .ok (.aload_n 0, 1) := by decide +kernel
theorem dX5_remove_75 : decode cX5_remove 75 = .ok (.getfield 9, 3) := by decide +kernel
theorem dX5_remove_78 : decode cX5_remove 78 = .ok (.iload_n 1, 1) := by decide +kernel
theorem dX5_remove_79 : decode cX5_remove 79 = .ok (.iload_n 3, 1) := by decide +kernel
theorem dX5_remove_80 : decode cX5_remove 80 = .ok (.iconst 1, 1) := by decide +kernel
theorem dX5_remove_81 : decode cX5_remove 81 = .ok (.isub, 1) := by decide +kernel
theorem dX5_remove_82 : decode cX5_remove 82 = .ok (.iastore, 1) := by decide +kernel
theorem dX5_remove_83 : decode cX5_remove 83 = .ok (.return_, 1) := by decide +kernel
theorem dX5_hasStar_0 : decode cX5_hasStar 0 = .ok (.iconst 0, 1) := by decide +kernel
theorem dX5_hasStar_1 : decode cX5_hasStar 1 = .ok (.istore_n 3, 1) := by decide +kernel
theorem dX5_hasStar_2 : decode cX5_hasStar 2 = .ok (.iload_n 3, 1) := by decide +kernel
theorem dX5_hasStar_3 : decode cX5_hasStar 3 = .ok (.aload_n 0, 1) := by decide +kernel
theorem dX5_hasStar_4 : decode cX5_hasStar 4 = .ok (.getfield 9, 3) := by decide +kernel
theorem dX5_hasStar_7 : decode cX5_hasStar 7 = .ok (.iload_n 1, 1) := by decide +kernel
theorem dX5_hasStar_8 : decode cX5_hasStar 8 = .ok (.iaload, 1) := by decide +kernel
theorem dX5_hasStar_9 : decode cX5_hasStar 9 = .ok (.if_icmp .ge 40, 3) := by decide +kernel
theorem dX5_hasStar_12 : decode cX5_hasStar 12 = .ok (.iload_n 1, 1) := by decide +kernel
theorem dX5_hasStar_13 : decode cX5_hasStar 13 = .ok (.iload_n 3, 1) := by decide +kernel
theorem dX5_hasStar_14 : decode cX5_hasStar 14 = .ok (.invokestatic 25, 3) := by decide +kernel
theorem dX5_hasStar_17 : decode cX5_hasStar 17 = .ok (.istore 4, 2) := by decide +kernel
theorem dX5_hasStar_19 : decode cX5_hasStar 19 = .ok (.aload_n 0, 1) := by decide +kernel
theorem dX5_hasStar_20 : decode cX5_hasStar 20 = .ok (.getfield 15, 3) := by decide +kernel
theorem dX5_hasStar_23 : decode cX5_hasStar 23 = .ok (.iload 4, 2) := by decide +kernel
theorem dX5_hasStar_25 : decode cX5_hasStar 25 = .ok (.iaload, 1) := by decide +kernel
theorem dX5_hasStar_26 : decode cX5_hasStar 26 = .ok (.iload_n 2, 1) := by decide +kernel
theorem dX5_hasStar_27 : decode cX5_hasStar 27 = .ok (.if_icmp .eq 14, 3) := by decide +kernel
theorem dX5_hasStar_30 : decode cX5_hasStar 30 = .ok (.aload_n 0, 1) := by decide +kernel
theorem dX5_hasStar_31 : decode cX5_hasStar 31 = .ok (.getfield 18, 3) := by decide +kernel
theorem dX5_hasStar_34 : decode cX5_hasStar 34 = .ok (.iload 4, 2) := by decide +kernel
theorem dX5_hasStar_36 : decode cX5_hasStar 36 = .ok (.iaload, 1) := by decide +kernel
theorem dX5_hasStar_37 : decode cX5_hasStar 37 = .ok (.iload_n 2, 1) := by decide +kernel
theorem dX5_hasStar_38 : decode cX5_hasStar 38 = .ok (.if_icmp .ne 5, 3) := by decide +kernel
theorem dX5_hasStar_41 : decode cX5_hasStar 41 = .ok (.iconst 1, 1) := by decide +kernel
theorem dX5_hasStar_42 : decode cX5_hasStar 42 = .ok (.ireturn, 1) := by decide +kernel
theorem dX5_hasStar_43 : decode cX5_hasStar 43 = .ok (.iinc 3 1, 3) := by decide +kernel
theorem dX5_hasStar_46 : decode cX5_hasStar 46 = .ok (.goto (-44), 3) := by decide +kernel
theorem dX5_hasStar_49 : decode cX5_hasStar 49 = .ok (.iconst 0, 1) := by decide +kernel
theorem dX5_hasStar_50 : decode cX5_hasStar 50 = .ok (.ireturn, 1) := by decide +kernel
theorem dX6_init_0 : decode cX6_init 0 = .ok (.aload_n 0, 1) := by decide +kernel
theorem dX6_init_1 : decode cX6_init 1 = .ok (.invokespecial 3, 3) := by decide +kernel
theorem dX6_init_4 : decode cX6_init 4 = .ok (.aload_n 0, 1) := by decide +kernel
theorem dX6_init_5 : decode cX6_init 5 = .ok (.new 9, 3) := by decide +kernel
theorem dX6_init_8 : decode cX6_init 8 = .ok (.dup, 1) := by decide +kernel
theorem dX6_init_9 : decode cX6_init 9 = .ok (.invokespecial 11, 3) := by decide +kernel
theorem dX6_init_12 : decode cX6_init 12 = .ok (.putfield 12, 3) := by decide +kernel
theorem dX6_init_15 : decode cX6_init 15 = .ok (.aload_n 0, 1) := by decide +kernel
theorem dX6_init_16 : decode cX6_init 16 = .ok (.new 16, 3) := by decide +kernel
theorem dX6_init_19 : decode cX6_init 19 = .ok (.dup, 1) := by decide +kernel
theorem dX6_init_20 : decode cX6_init 20 = .ok (.invokespecial 18, 3) := by decide +kernel
theorem dX6_init_23 : decode cX6_init 23 = .ok (.putfield 19, 3) := by decide +kernel
theorem dX6_init_26 : decode cX6_init 26 = .ok (.aload_n 0, 1) := by decide +kernel
theorem dX6_init_27 : decode cX6_init 27 = .ok (.new 23, 3) := by decide +kernel
theorem dX6_init_30 : decode cX6_init 30 = .ok (.dup, 1) := by decide +kernel
theorem dX6_init_31 : decode cX6_init 31 = .ok (.invokespecial 25, 3) := by decide +kernel
theorem dX6_init_34 : decode cX6_init 34 = .ok (.putfield 26, 3) := by decide +kernel
theorem dX6_init_37 : decode cX6_init 37 = .ok (.aload_n 0, 1) := by decide +kernel
theorem dX6_init_38 : decode cX6_init 38 = .ok (.new 30, 3) := by decide +kernel
theorem dX6_init_41 : decode cX6_init 41 = .ok (.dup, 1) := by decide +kernel
theorem dX6_init_42 : decode cX6_init 42 = .ok (.invokespecial 32, 3) := by decide +kernel
theorem dX6_init_45 : decode cX6_init 45 = .ok (.putfield 33, 3) := by decide +kernel
theorem dX6_init_48 : decode cX6_init 48 = .ok (.aload_n 0, 1) := by decide +kernel
theorem dX6_init_49 : decode cX6_init 49 = .ok (.new 37, 3) := by decide +kernel
theorem dX6_init_52 : decode cX6_init 52 = .ok (.dup, 1) := by decide +kernel
theorem dX6_init_53 : decode cX6_init 53 = .ok (.invokespecial 39, 3) := by decide +kernel
theorem dX6_init_56 : decode cX6_init 56 = .ok (.putfield 40, 3) := by decide +kernel
theorem dX6_init_59 : decode cX6_init 59 = .ok (.return_, 1) := by decide +kernel
theorem dX6_addStar_0 : decode cX6_addStar 0 = .ok (.iload_n 1, 1) := by decide +kernel
theorem dX6_addStar_1 : decode cX6_addStar 1 = .ok (.iload_n 2, 1) := by decide +kernel
theorem dX6_addStar_2 : decode cX6_addStar 2 = .ok (.invokestatic 44, 3) := by decide +kernel
theorem dX6_addStar_5 : decode cX6_addStar 5 = .ok (.aload_n 0, 1) := by decide +kernel
theorem dX6_addStar_6 : decode cX6_addStar 6 = .ok (.getfield 12, 3) := by decide +kernel
theorem dX6_addStar_9 : decode cX6_addStar 9 = .ok (.getfield 48, 3) := by decide +kernel
theorem dX6_addStar_12 : decode cX6_addStar 12 = .ok (.bipush 24, 2) := by decide +kernel
theorem dX6_addStar_14 : decode cX6_addStar 14 = .ok (.if_icmp .lt 13, 3) := by decide +kernel
theorem dX6_addStar_17 : decode cX6_addStar 17 = .ok (.new 52, 3) := by decide +kernel
theorem dX6_addStar_20 : decode cX6_addStar 20 = .ok (.dup, 1) := by decide +kernel
theorem dX6_addStar_21 : decode cX6_addStar 21 = .ok (.ldc 54, 2) := by decide +kernel
theorem dX6_addStar_23 : decode cX6_addStar 23 = .ok (.invokespecial 56, 3) := by decide +kernel
theorem dX6_addStar_26 : decode cX6_addStar 26 = .ok (.athrow, 1) := by decide +kernel
theorem dX6_addStar_27 : decode cX6_addStar 27 = .ok (.aload_n 0, 1) := by decide +kernel
theorem dX6_addStar_28 : decode cX6_addStar 28 = .ok (.getfield 12, 3) := by decide +kernel
theorem dX6_addStar_31 : decode cX6_addStar 31 = .ok (.iload_n 1, 1) := by decide +kernel
theorem dX6_addStar_32 : decode cX6_addStar 32 = .ok (.iload_n 2, 1) := by decide +kernel
theorem dX6_addStar_33 : decode cX6_addStar 33 = .ok (.invokevirtual 59, 3) := by decide +kernel
theorem dX6_addStar_36 : decode cX6_addStar 36 = .ok (.ireturn, 1) := by decide +kernel
theorem dX6_correct_0 : decode cX6_correct 0 = .ok (.aload_n 0, 1) := by decide +kernel
theorem dX6_correct_1 : decode cX6_correct 1 = .ok (.iload_n 1, 1) := by decide +kernel
theorem dX6_correct_2 : decode cX6_correct 2 = .ok (.invokevirtual 63, 3) := by decide +kernel
theorem dX6_correct_5 : decode cX6_correct 5 = .ok (.iload_n 2, 1) := by decide +kernel
theorem dX6_correct_6 : decode cX6_correct 6 = .ok (.iload_n 3, 1) := by decide +kernel
theorem dX6_correct_7 : decode cX6_correct 7 = .ok (.invokestatic 44, 3) := by decide +kernel
theorem dX6_correct_10 : decode cX6_correct 10 = .ok (.aload_n 0, 1) := by decide +kernel
theorem dX6_correct_11 : decode cX6_correct 11 = .ok (.getfield 40, 3) := by decide +kernel
theorem dX6_correct_14 : decode cX6_correct 14 = .ok (.iconst 0, 1) := by decide +kernel
theorem dX6_correct_15 : decode cX6_correct 15 = .ok (.iload_n 1, 1) := by decide +kernel
theorem dX6_correct_16 : decode cX6_correct 16 = .ok (.iconst 0, 1) := by decide +kernel
theorem dX6_correct_17 : decode cX6_correct 17 = .ok (.aload_n 0, 1) := by decide +kernel
theorem dX6_correct_18 : decode cX6_correct 18 = .ok (.getfield 12, 3) := by decide +kernel
theorem dX6_correct_21 : decode cX6_correct 21 = .ok (.getfield 67, 3) := by decide +kernel
theorem dX6_correct_24 : decode cX6_correct 24 = .ok (.iload_n 1, 1) := by decide +kernel
theorem dX6_correct_25 : decode cX6_correct 25 = .ok (.iaload, 1) := by decide +kernel
theorem dX6_correct_26 : decode cX6_correct 26 = .ok (.aload_n 0, 1) := by decide +kernel
theorem dX6_correct_27 : decode cX6_correct 27 = .ok (.getfield 12, 3) := by decide +kernel
theorem dX6_correct_30 : decode cX6_correct 30 = .ok (.getfield 71, 3) := by decide +kernel
theorem dX6_correct_33 : decode cX6_correct 33 = .ok (.iload_n 1, 1) := by decide +kernel
theorem dX6_correct_34 : decode cX6_correct 34 = .ok (.iaload, 1) := by decide +kernel
theorem dX6_correct_35 : decode cX6_correct 35 = .ok (.invokevirtual 74, 3) := by decide +kernel
theorem dX6_correct_38 : decode cX6_correct 38 = .ok (.aload_n 0, 1) := by decide +kernel
theorem dX6_correct_39 : decode cX6_correct 39 = .ok (.getfield 12, 3) := by decide +kernel
theorem dX6_correct_42 : decode cX6_correct 42 = .ok (.iload_n 1, 1) := by decide +kernel
theorem dX6_correct_43 : decode cX6_correct 43 = .ok (.iload_n 2, 1) := by decide +kernel
theorem dX6_correct_44 : decode cX6_correct 44 = .ok (.iload_n 3, 1) := by decide +kernel
theorem dX6_correct_45 : decode cX6_correct 45 = .ok (.invokevirtual 78, 3) := by decide +kernel
theorem dX6_correct_48 : decode cX6_correct 48 = .ok (.aload_n 0, 1) := by decide +kernel
theorem dX6_correct_49 : decode cX6_correct 49 = .ok (.invokevirtual 82, 3) := by decide +kernel
theorem dX6_correct_52 : decode cX6_correct 52 = .ok (.ireturn, 1) := by decide +kernel
theorem dX6_addFigure_0 : decode cX6_addFigure 0 = .ok (.aload_n 0, 1) := by decide +kernel
theorem dX6_addFigure_1 : decode cX6_addFigure 1 = .ok (.getfield 19, 3) := by decide +kernel
theorem dX6_addFigure_4 : decode cX6_addFigure 4 = .ok (.getfield 86, 3) := by decide +kernel
theorem dX6_addFigure_7 : decode cX6_addFigure 7 = .ok (.bipush 8, 2) := by decide +kernel
theorem dX6_addFigure_9 : decode cX6_addFigure 9 = .ok (.if_icmp .lt 13, 3) := by decide +kernel
theorem dX6_addFigure_12 : decode cX6_addFigure 12 = .ok (.new 52, 3) := by decide +kernel
theorem dX6_addFigure_15 : decode cX6_addFigure 15 = .ok (.dup, 1) := by decide +kernel
theorem dX6_addFigure_16 : decode cX6_addFigure 16 = .ok (.ldc 89, 2) := by decide +kernel
theorem dX6_addFigure_18 : decode cX6_addFigure 18 = .ok (.invokespecial 56, 3) := by decide +kernel
theorem dX6_addFigure_21 : decode cX6_addFigure 21 = .ok (.athrow, 1) := by decide +kernel
theorem dX6_addFigure_22 : decode cX6_addFigure 22 = .ok (.aload_n 0, 1) := by decide +kernel
theorem dX6_addFigure_23 : decode cX6_addFigure 23 = .ok (.getfield 19, 3) := by decide +kernel
theorem dX6_addFigure_26 : decode cX6_addFigure 26 = .ok (.invokevirtual 91, 3) := by decide +kernel
theorem dX6_addFigure_29 : decode cX6_addFigure 29 = .ok (.ireturn, 1) := by decide +kernel
theorem dX6_draw_0 : decode cX6_draw 0 = .ok (.aload_n 0, 1) := by decide +kernel
theorem dX6_draw_1 : decode cX6_draw 1 = .ok (.iload_n 1, 1) := by decide +kernel
theorem dX6_draw_2 : decode cX6_draw 2 = .ok (.invokevirtual 94, 3) := by decide +kernel
theorem dX6_draw_5 : decode cX6_draw 5 = .ok (.aload_n 0, 1) := by decide +kernel
theorem dX6_draw_6 : decode cX6_draw 6 = .ok (.iload_n 2, 1) := by decide +kernel
theorem dX6_draw_7 : decode cX6_draw 7 = .ok (.invokevirtual 63, 3) := by decide +kernel
theorem dX6_draw_10 : decode cX6_draw 10 = .ok (.aload_n 0, 1) := by decide +kernel
theorem dX6_draw_11 : decode cX6_draw 11 = .ok (.iload_n 3, 1) := by decide +kernel
theorem dX6_draw_12 : decode cX6_draw 12 = .ok (.invokevirtual 63, 3) := by decide +kernel
theorem dX6_draw_15 : decode cX6_draw 15 = .ok (.iload_n 2, 1) := by decide +kernel
theorem dX6_draw_16 : decode cX6_draw 16 = .ok (.iload_n 3, 1) := by decide +kernel
theorem dX6_draw_17 : decode cX6_draw 17 = .ok (.if_icmp .ne 13, 3) := by decide +kernel
theorem dX6_draw_20 : decode cX6_draw 20 = .ok (.new 97, 3) := by decide +kernel
theorem dX6_draw_23 : decode cX6_draw 23 = .ok (.dup, 1) := by decide +kernel
theorem dX6_draw_24 : decode cX6_draw 24 = .ok (.ldc 99, 2) := by decide +kernel
theorem dX6_draw_26 : decode cX6_draw 26 = .ok (.invokespecial 101, 3) := by decide +kernel
theorem dX6_draw_29 : decode cX6_draw 29 = .ok (.athrow, 1) := by decide +kernel
theorem dX6_draw_30 : decode cX6_draw 30 = .ok (.aload_n 0, 1) := by decide +kernel
theorem dX6_draw_31 : decode cX6_draw 31 = .ok (.getfield 19, 3) := by decide +kernel
theorem dX6_draw_34 : decode cX6_draw 34 = .ok (.getfield 102, 3) := by decide +kernel
theorem dX6_draw_37 : decode cX6_draw 37 = .ok (.iload_n 1, 1) := by decide +kernel
theorem dX6_draw_38 : decode cX6_draw 38 = .ok (.iaload, 1) := by decide +kernel
theorem dX6_draw_39 : decode cX6_draw 39 = .ok (.istore 4, 2) := by decide +kernel
theorem dX6_draw_41 : decode cX6_draw 41 = .ok (.iload 4, 2) := by decide +kernel
theorem dX6_draw_43 : decode cX6_draw 43 = .ok (.bipush 10, 2) := by decide +kernel
theorem dX6_draw_45 : decode cX6_draw 45 = .ok (.if_icmp .lt 13, 3) := by decide +kernel
theorem dX6_draw_48 : decode cX6_draw 48 = .ok (.new 52, 3) := by decide +kernel
theorem dX6_draw_51 : decode cX6_draw 51 = .ok (.dup, 1) := by decide +kernel
theorem dX6_draw_52 : decode cX6_draw 52 = .ok (.ldc 105, 2) := by decide +kernel
theorem dX6_draw_54 : decode cX6_draw 54 = .ok (.invokespecial 56, 3) := by decide +kernel
theorem dX6_draw_57 : decode cX6_draw 57 = .ok (.athrow, 1) := by decide +kernel
theorem dX6_draw_58 : decode cX6_draw 58 = .ok (.aload_n 0, 1) := by decide +kernel
theorem dX6_draw_59 : decode cX6_draw 59 = .ok (.getfield 19, 3) := by decide +kernel
theorem dX6_draw_62 : decode cX6_draw 62 = .ok (.iload_n 1, 1) := by decide +kernel
theorem dX6_draw_63 : decode cX6_draw 63 = .ok (.iload_n 2, 1) := by decide +kernel
theorem dX6_draw_64 : decode cX6_draw 64 = .ok (.iload_n 3, 1) := by decide +kernel
theorem dX6_draw_65 : decode cX6_draw 65 = .ok (.invokevirtual 107, 3) := by decide +kernel
theorem dX6_draw_68 : decode cX6_draw 68 = .ok (.ifCond .eq 13, 3) := by decide +kernel
theorem dX6_draw_71 : decode cX6_draw 71 = .ok (.new 52, 3) := by decide +kernel
theorem dX6_draw_74 : decode cX6_draw 74 = .ok (.dup, 1) := by decide +kernel
theorem dX6_draw_75 : decode cX6_draw 75 = .ok (.ldc 111, 2) := by decide +kernel
theorem dX6_draw_77 : decode cX6_draw 77 = .ok (.invokespecial 56, 3) := by decide +kernel
theorem dX6_draw_80 : decode cX6_draw 80 = .ok (.athrow, 1) := by decide +kernel
theorem dX6_draw_81 : decode cX6_draw 81 = .ok (.aload_n 0, 1) := by decide +kernel
theorem dX6_draw_82 : decode cX6_draw 82 = .ok (.getfield 19, 3) := by decide +kernel
theorem dX6_draw_85 : decode cX6_draw 85 = .ok (.iload_n 1, 1) := by decide +kernel
theorem dX6_draw_86 : decode cX6_draw 86 = .ok (.iload_n 2, 1) := by decide +kernel
theorem dX6_draw_87 : decode cX6_draw 87 = .ok (.invokevirtual 113, 3) := by decide +kernel
theorem dX6_draw_90 : decode cX6_draw 90 = .ok (.ifCond .ne 15, 3) := by decide +kernel
theorem dX6_draw_93 : decode cX6_draw 93 = .ok (.aload_n 0, 1) := by decide +kernel
theorem dX6_draw_94 : decode cX6_draw 94 = .ok (.getfield 19, 3) := by decide +kernel
theorem dX6_draw_97 : decode cX6_draw 97 = .ok (.iload_n 1, 1) := by decide +kernel
theorem dX6_draw_98 : decode cX6_draw 98 = .ok (.iload_n 3, 1) := by decide +kernel
theorem dX6_draw_99 : decode cX6_draw 99 = .ok (.invokevirtual 113, 3) := by decide +kernel
theorem dX6_draw_102 : decode cX6_draw 102 = .ok (.ifCond .eq 13, 3) := by decide +kernel
theorem dX6_draw_105 : decode cX6_draw 105 = .ok (.new 52, 3) := by decide +kernel
theorem dX6_draw_108 : decode cX6_draw 108 = .ok (.dup, 1) := by decide +kernel
theorem dX6_draw_109 : decode cX6_draw 109 = .ok (.ldc 117, 2) := by decide +kernel
theorem dX6_draw_111 : decode cX6_draw 111 = .ok (.invokespecial 56, 3) := by decide +kernel
theorem dX6_draw_114 : decode cX6_draw 114 = .ok (.athrow, 1) := by decide +kernel
theorem dX6_draw_115 : decode cX6_draw 115 = .ok (.aload_n 0, 1) := by decide +kernel
theorem dX6_draw_116 : decode cX6_draw 116 = .ok (.getfield 40, 3) := by decide +kernel
theorem dX6_draw_119 : decode cX6_draw 119 = .ok (.iconst 1, 1) := by decide +kernel
theorem dX6_draw_120 : decode cX6_draw 120 = .ok (.iload_n 1, 1) := by decide +kernel
theorem dX6_draw_121 : decode cX6_draw 121 = .ok (.iload 4, 2) := by decide +kernel
theorem dX6_draw_123 : decode cX6_draw 123 = .ok (.iload_n 2, 1) := by decide +kernel
theorem dX6_draw_124 : decode cX6_draw 124 = .ok (.iload_n 3, 1) := by decide +kernel
theorem dX6_draw_125 : decode cX6_draw 125 = .ok (.invokevirtual 74, 3) := by decide +kernel
theorem dX6_draw_128 : decode cX6_draw 128 = .ok (.aload_n 0, 1) := by decide +kernel
theorem dX6_draw_129 : decode cX6_draw 129 = .ok (.getfield 19, 3) := by decide +kernel
theorem dX6_draw_132 : decode cX6_draw 132 = .ok (.iload_n 1, 1) := by decide +kernel
theorem dX6_draw_133 : decode cX6_draw 133 = .ok (.iload 4, 2) := by decide +kernel
theorem dX6_draw_135 : decode cX6_draw 135 = .ok (.iload_n 2, 1) := by decide +kernel
theorem dX6_draw_136 : decode cX6_draw 136 = .ok (.iload_n 3, 1) := by decide +kernel
theorem dX6_draw_137 : decode cX6_draw 137 = .ok (.invokevirtual 119, 3) := by decide +kernel
theorem dX6_draw_140 : decode cX6_draw 140 = .ok (.iload 4, 2) := by decide +kernel
theorem dX6_draw_142 : decode cX6_draw 142 = .ok (.ireturn, 1) := by decide +kernel
theorem dX6_erase_0 : decode cX6_erase 0 = .ok (.aload_n 0, 1) := by decide +kernel
theorem dX6_erase_1 : decode cX6_erase 1 = .ok (.iload_n 1, 1) := by decide +kernel
theorem dX6_erase_2 : decode cX6_erase 2 = .ok (.invokevirtual 94, 3) := by decide +kernel
theorem dX6_erase_5 : decode cX6_erase 5 = .ok (.iload_n 2, 1) := by decide +kernel
theorem dX6_erase_6 : decode cX6_erase 6 = .ok (.ifCond .lt 16, 3) := by decide +kernel
theorem dX6_erase_9 : decode cX6_erase 9 = .ok (.iload_n 2, 1) := by decide +kernel
theorem dX6_erase_10 : decode cX6_erase 10 = .ok (.aload_n 0, 1) := by decide +kernel
theorem dX6_erase_11 : decode cX6_erase 11 = .ok (.getfield 19, 3) := by decide +kernel
theorem dX6_erase_14 : decode cX6_erase 14 = .ok (.getfield 102, 3) := by decide +kernel
theorem dX6_erase_17 : decode cX6_erase 17 = .ok (.iload_n 1, 1) := by decide +kernel
theorem dX6_erase_18 : decode cX6_erase 18 = .ok (.iaload, 1) := by decide +kernel
theorem dX6_erase_19 : decode cX6_erase 19 = .ok (.if_icmp .lt 13, 3) := by decide +kernel
theorem dX6_erase_22 : decode cX6_erase 22 = .ok (.new 123, 3) := by decide +kernel
theorem dX6_erase_25 : decode cX6_erase 25 = .ok (.dup, 1) := by decide +kernel
theorem dX6_erase_26 : decode cX6_erase 26 = .ok (.ldc 125, 2) := by decide +kernel
theorem dX6_erase_28 : decode cX6_erase 28 = .ok (.invokespecial 127, 3) := by decide +kernel
theorem dX6_erase_31 : decode cX6_erase 31 = .ok (.athrow, 1) := by decide +kernel
theorem dX6_erase_32 : decode cX6_erase 32 = .ok (.iload_n 1, 1) := by decide +kernel
theorem dX6_erase_33 : decode cX6_erase 33 = .ok (.iload_n 2, 1) := by decide +kernel
theorem dX6_erase_34 : decode cX6_erase 34 = .ok (.invokestatic 128, 3) := by decide +kernel
theorem dX6_erase_37 : decode cX6_erase 37 = .ok (.istore_n 3, 1) := by decide +kernel
theorem dX6_erase_38 : decode cX6_erase 38 = .ok (.aload_n 0, 1) := by decide +kernel
theorem dX6_erase_39 : decode cX6_erase 39 = .ok (.getfield 40, 3) := by decide +kernel
theorem dX6_erase_42 : decode cX6_erase 42 = .ok (.iconst 2, 1) := by decide +kernel
theorem dX6_erase_43 : decode cX6_erase 43 = .ok (.iload_n 1, 1) := by decide +kernel
theorem dX6_erase_44 : decode cX6_erase 44 = .ok (.iload_n 2, 1) := by decide +kernel
theorem dX6_erase_45 : decode cX6_erase 45 = .ok (.aload_n 0, 1) := by decide +kernel
theorem dX6_erase_46 : decode cX6_erase 46 = .ok (.getfield 19, 3) := by decide +kernel
theorem dX6_erase_49 : decode cX6_erase 49 = .ok (.getfield 131, 3) := by decide +kernel
theorem dX6_erase_52 : decode cX6_erase 52 = .ok (.iload_n 3, 1) := by decide +kernel
theorem dX6_erase_53 : decode cX6_erase 53 = .ok (.iaload, 1) := by decide +kernel
theorem dX6_erase_54 : decode cX6_erase 54 = .ok (.aload_n 0, 1) := by decide +kernel
theorem dX6_erase_55 : decode cX6_erase 55 = .ok (.getfield 19, 3) := by decide +kernel
theorem dX6_erase_58 : decode cX6_erase 58 = .ok (.getfield 134, 3) := by decide +kernel
theorem dX6_erase_61 : decode cX6_erase 61 = .ok (.iload_n 3, 1) := by decide +kernel
theorem dX6_erase_62 : decode cX6_erase 62 = .ok (.iaload, 1) := by decide +kernel
theorem dX6_erase_63 : decode cX6_erase 63 = .ok (.invokevirtual 74, 3) := by decide +kernel
theorem dX6_erase_66 : decode cX6_erase 66 = .ok (.aload_n 0, 1) := by decide +kernel
theorem dX6_erase_67 : decode cX6_erase 67 = .ok (.getfield 19, 3) := by decide +kernel
theorem dX6_erase_70 : decode cX6_erase 70 = .ok (.iload_n 1, 1) := by decide +kernel
theorem dX6_erase_71 : decode cX6_erase 71 = .ok (.iload_n 2, 1) := by decide +kernel
theorem dX6_erase_72 : decode cX6_erase 72 = .ok (.invokevirtual 137, 3) := by decide +kernel
theorem dX6_erase_75 : decode cX6_erase 75 = .ok (.aload_n 0, 1) := by decide +kernel
theorem dX6_erase_76 : decode cX6_erase 76 = .ok (.getfield 19, 3) := by decide +kernel
theorem dX6_erase_79 : decode cX6_erase 79 = .ok (.getfield 102, 3) := by decide +kernel
theorem dX6_erase_82 : decode cX6_erase 82 = .ok (.iload_n 1, 1) := by decide +kernel
theorem dX6_erase_83 : decode cX6_erase 83 = .ok (.iaload, 1) := by decide +kernel
theorem dX6_erase_84 : decode cX6_erase 84 = .ok (.ireturn, 1) := by decide +kernel
theorem dX6_undo_0 : decode cX6_undo 0 = .ok (.aload_n 0, 1) := by decide +kernel
theorem dX6_undo_1 : decode cX6_undo 1 = .ok (.getfield 40, 3) := by decide +kernel
theorem dX6_undo_4 : decode cX6_undo 4 = .ok (.getfield 140, 3) := by decide +kernel
theorem dX6_undo_7 : decode cX6_undo 7 = .ok (.ifCond .gt 13, 3) := by decide +kernel
theorem dX6_undo_10 : decode cX6_undo 10 = .ok (.new 52, 3) := by decide +kernel
theorem dX6_undo_13 : decode cX6_undo 13 = .ok (.dup, 1) := by decide +kernel
theorem dX6_undo_14 : decode cX6_undo 14 = .ok (.ldc 143, 2) := by decide +kernel
theorem dX6_undo_16 : decode cX6_undo 16 = .ok (.invokespecial 56, 3) := by decide +kernel
theorem dX6_undo_19 : decode cX6_undo 19 = .ok (.athrow, 1) := by decide +kernel
theorem dX6_undo_20 : decode cX6_undo 20 = .ok (.aload_n 0, 1) := by decide +kernel
theorem dX6_undo_21 : decode cX6_undo 21 = .ok (.getfield 40, 3) := by decide +kernel
theorem dX6_undo_24 : decode cX6_undo 24 = .ok (.invokevirtual 145, 3) := by decide +kernel
theorem dX6_undo_27 : decode cX6_undo 27 = .ok (.aload_n 0, 1) := by decide +kernel
theorem dX6_undo_28 : decode cX6_undo 28 = .ok (.aload_n 0, 1) := by decide +kernel
theorem dX6_undo_29 : decode cX6_undo 29 = .ok (.getfield 40, 3) := by decide +kernel
theorem dX6_undo_32 : decode cX6_undo 32 = .ok (.getfield 148, 3) := by decide +kernel
theorem dX6_undo_35 : decode cX6_undo 35 = .ok (.invokevirtual 151, 3) := by decide +kernel
theorem dX6_undo_38 : decode cX6_undo 38 = .ok (.aload_n 0, 1) := by decide +kernel
theorem dX6_undo_39 : decode cX6_undo 39 = .ok (.getfield 40, 3) := by decide +kernel
theorem dX6_undo_42 : decode cX6_undo 42 = .ok (.getfield 140, 3) := by decide +kernel
theorem dX6_undo_45 : decode cX6_undo 45 = .ok (.ireturn, 1) := by decide +kernel
theorem dX6_stars_0 : decode cX6_stars 0 = .ok (.aload_n 0, 1) := by decide +kernel
theorem dX6_stars_1 : decode cX6_stars 1 = .ok (.getfield 12, 3) := by decide +kernel
theorem dX6_stars_4 : decode cX6_stars 4 = .ok (.getfield 48, 3) := by decide +kernel
theorem dX6_stars_7 : decode cX6_stars 7 = .ok (.ireturn, 1) := by decide +kernel
theorem dX6_figures_0 : decode cX6_figures 0 = .ok (.aload_n 0, 1) := by decide +kernel
theorem dX6_figures_1 : decode cX6_figures 1 = .ok (.getfield 19, 3) := by decide +kernel
theorem dX6_figures_4 : decode cX6_figures 4 = .ok (.getfield 86, 3) := by decide +kernel
theorem dX6_figures_7 : decode cX6_figures 7 = .ok (.ireturn, 1) := by decide +kernel
theorem dX6_lines_0 : decode cX6_lines 0 = .ok (.aload_n 0, 1) := by decide +kernel
theorem dX6_lines_1 : decode cX6_lines 1 = .ok (.iload_n 1, 1) := by decide +kernel
theorem dX6_lines_2 : decode cX6_lines 2 = .ok (.invokevirtual 94, 3) := by decide +kernel
theorem dX6_lines_5 : decode cX6_lines 5 = .ok (.aload_n 0, 1) := by decide +kernel
theorem dX6_lines_6 : decode cX6_lines 6 = .ok (.getfield 19, 3) := by decide +kernel
theorem dX6_lines_9 : decode cX6_lines 9 = .ok (.getfield 102, 3) := by decide +kernel
theorem dX6_lines_12 : decode cX6_lines 12 = .ok (.iload_n 1, 1) := by decide +kernel
theorem dX6_lines_13 : decode cX6_lines 13 = .ok (.iaload, 1) := by decide +kernel
theorem dX6_lines_14 : decode cX6_lines 14 = .ok (.ireturn, 1) := by decide +kernel
theorem dX6_placeOf_0 : decode cX6_placeOf 0 = .ok (.aload_n 0, 1) := by decide +kernel
theorem dX6_placeOf_1 : decode cX6_placeOf 1 = .ok (.iload_n 1, 1) := by decide +kernel
theorem dX6_placeOf_2 : decode cX6_placeOf 2 = .ok (.invokevirtual 63, 3) := by decide +kernel
theorem dX6_placeOf_5 : decode cX6_placeOf 5 = .ok (.sipush 1000, 3) := by decide +kernel
theorem dX6_placeOf_8 : decode cX6_placeOf 8 = .ok (.aload_n 0, 1) := by decide +kernel
theorem dX6_placeOf_9 : decode cX6_placeOf 9 = .ok (.getfield 12, 3) := by decide +kernel
theorem dX6_placeOf_12 : decode cX6_placeOf 12 = .ok (.getfield 67, 3) := by decide +kernel
theorem dX6_placeOf_15 : decode cX6_placeOf 15 = .ok (.iload_n 1, 1) := by decide +kernel
theorem dX6_placeOf_16 : decode cX6_placeOf 16 = .ok (.iaload, 1) := by decide +kernel
theorem dX6_placeOf_17 : decode cX6_placeOf 17 = .ok (.imul, 1) := by decide +kernel
theorem dX6_placeOf_18 : decode cX6_placeOf 18 = .ok (.aload_n 0, 1) := by decide +kernel
theorem dX6_placeOf_19 : decode cX6_placeOf 19 = .ok (.getfield 12, 3) := by decide +kernel
theorem dX6_placeOf_22 : decode cX6_placeOf 22 = .ok (.getfield 71, 3) := by decide +kernel
theorem dX6_placeOf_25 : decode cX6_placeOf 25 = .ok (.iload_n 1, 1) := by decide +kernel
theorem dX6_placeOf_26 : decode cX6_placeOf 26 = .ok (.iaload, 1) := by decide +kernel
theorem dX6_placeOf_27 : decode cX6_placeOf 27 = .ok (.iadd, 1) := by decide +kernel
theorem dX6_placeOf_28 : decode cX6_placeOf 28 = .ok (.bipush 90, 2) := by decide +kernel
theorem dX6_placeOf_30 : decode cX6_placeOf 30 = .ok (.iadd, 1) := by decide +kernel
theorem dX6_placeOf_31 : decode cX6_placeOf 31 = .ok (.ireturn, 1) := by decide +kernel
theorem dX6_figureOf_0 : decode cX6_figureOf 0 = .ok (.aload_n 0, 1) := by decide +kernel
theorem dX6_figureOf_1 : decode cX6_figureOf 1 = .ok (.iload_n 1, 1) := by decide +kernel
theorem dX6_figureOf_2 : decode cX6_figureOf 2 = .ok (.invokevirtual 63, 3) := by decide +kernel
theorem dX6_figureOf_5 : decode cX6_figureOf 5 = .ok (.aload_n 0, 1) := by decide +kernel
theorem dX6_figureOf_6 : decode cX6_figureOf 6 = .ok (.getfield 19, 3) := by decide +kernel
theorem dX6_figureOf_9 : decode cX6_figureOf 9 = .ok (.iload_n 1, 1) := by decide +kernel
theorem dX6_figureOf_10 : decode cX6_figureOf 10 = .ok (.invokevirtual 154, 3) := by decide +kernel
theorem dX6_figureOf_13 : decode cX6_figureOf 13 = .ok (.ireturn, 1) := by decide +kernel
theorem dX6_crossings_0 : decode cX6_crossings 0 = .ok (.aload_n 0, 1) := by decide +kernel
theorem dX6_crossings_1 : decode cX6_crossings 1 = .ok (.iload_n 1, 1) := by decide +kernel
theorem dX6_crossings_2 : decode cX6_crossings 2 = .ok (.invokevirtual 94, 3) := by decide +kernel
theorem dX6_crossings_5 : decode cX6_crossings 5 = .ok (.aload_n 0, 1) := by decide +kernel
theorem dX6_crossings_6 : decode cX6_crossings 6 = .ok (.iload_n 2, 1) := by decide +kernel
theorem dX6_crossings_7 : decode cX6_crossings 7 = .ok (.invokevirtual 94, 3) := by decide +kernel
theorem dX6_crossings_10 : decode cX6_crossings 10 = .ok (.iconst 0, 1) := by decide +kernel
theorem dX6_crossings_11 : decode cX6_crossings 11 = .ok (.istore_n 3, 1) := by decide +kernel
theorem dX6_crossings_12 : decode cX6_crossings 12 = .ok (.iconst 0, 1) := by decide +kernel
theorem dX6_crossings_13 : decode cX6_crossings 13 = .ok (.istore 4, 2) := by decide +kernel
theorem dX6_crossings_15 : decode cX6_crossings 15 = .ok (.iload 4, 2) := by decide +kernel
theorem dX6_crossings_17 : decode cX6_crossings 17 = .ok (.aload_n 0, 1) := by decide +kernel
theorem dX6_crossings_18 : decode cX6_crossings 18 = .ok (.getfield 19, 3) := by decide +kernel
theorem dX6_crossings_21 : decode cX6_crossings 21 = .ok (.getfield 102, 3) := by decide +kernel
theorem dX6_crossings_24 : decode cX6_crossings 24 = .ok (.iload_n 1, 1) := by decide +kernel
theorem dX6_crossings_25 : decode cX6_crossings 25 = .ok (.iaload, 1) := by decide +kernel
theorem dX6_crossings_26 : decode cX6_crossings 26 = .ok (.if_icmp .ge 70, 3) := by decide +kernel
theorem dX6_crossings_29 : decode cX6_crossings 29 = .ok (.iload_n 1, 1) := by decide +kernel
theorem dX6_crossings_30 : decode cX6_crossings 30 = .ok (.iload_n 2, 1) := by decide +kernel
theorem dX6_crossings_31 : decode cX6_crossings 31 = .ok (.if_icmp .ne 10, 3) := by decide +kernel
theorem dX6_crossings_34 : decode cX6_crossings 34 = .ok (.iload 4, 2) := by decide +kernel
theorem dX6_crossings_36 : decode cX6_crossings 36 = .ok (.iconst 1, 1) := by decide +kernel
theorem dX6_crossings_37 : decode cX6_crossings 37 = .ok (.iadd, 1) := by decide +kernel
theorem dX6_crossings_38 : decode cX6_crossings 38 = .ok (.goto 4, 3) := by decide +kernel
theorem dX6_crossings_41 : decode cX6_crossings 41 = .ok (.iconst 0, 1) := by decide +kernel
theorem dX6_crossings_42 : decode cX6_crossings 42 = .ok (.istore 5, 2) := by decide +kernel
theorem dX6_crossings_44 : decode cX6_crossings 44 = .ok (.iload 5, 2) := by decide +kernel
theorem dX6_crossings_46 : decode cX6_crossings 46 = .ok (.istore 6, 2) := by decide +kernel
theorem dX6_crossings_48 : decode cX6_crossings 48 = .ok (.iload 6, 2) := by decide +kernel
theorem dX6_crossings_50 : decode cX6_crossings 50 = .ok (.aload_n 0, 1) := by decide +kernel
theorem dX6_crossings_51 : decode cX6_crossings 51 = .ok (.getfield 19, 3) := by decide +kernel
theorem dX6_crossings_54 : decode cX6_crossings 54 = .ok (.getfield 102, 3) := by decide +kernel
theorem dX6_crossings_57 : decode cX6_crossings 57 = .ok (.iload_n 2, 1) := by decide +kernel
theorem dX6_crossings_58 : decode cX6_crossings 58 = .ok (.iaload, 1) := by decide +kernel
theorem dX6_crossings_59 : decode cX6_crossings 59 = .ok (.if_icmp .ge 31, 3) := by decide +kernel
theorem dX6_crossings_62 : decode cX6_crossings 62 = .ok (.aload_n 0, 1) := by decide +kernel
theorem dX6_crossings_63 : decode cX6_crossings 63 = .ok (.iload_n 1, 1) := by decide +kernel
theorem dX6_crossings_64 : decode cX6_crossings 64 = .ok (.iload 4, 2) := by decide +kernel
theorem dX6_crossings_66 : decode cX6_crossings 66 = .ok (.invokestatic 128, 3) := by decide +kernel
theorem dX6_crossings_69 : decode cX6_crossings 69 = .ok (.iload_n 2, 1) := by decide +kernel
theorem dX6_crossings_70 : decode cX6_crossings 70 = .ok (.iload 6, 2) := by decide +kernel
theorem dX6_crossings_72 : decode cX6_crossings 72 = .ok (.invokestatic 128, 3) := by decide +kernel
theorem dX6_crossings_75 : decode cX6_crossings 75 = .ok (.invokevirtual 158, 3) := by decide +kernel
theorem dX6_crossings_78 : decode cX6_crossings 78 = .ok (.ifCond .eq 6, 3) := by decide +kernel
theorem dX6_crossings_81 : decode cX6_crossings 81 = .ok (.iinc 3 1, 3) := by decide +kernel
theorem dX6_crossings_84 : decode cX6_crossings 84 = .ok (.iinc 6 1, 3) := by decide +kernel
theorem dX6_crossings_87 : decode cX6_crossings 87 = .ok (.goto (-39), 3) := by decide +kernel
theorem dX6_crossings_90 : decode cX6_crossings 90 = .ok (.iinc 4 1, 3) := by decide +kernel
theorem dX6_crossings_93 : decode cX6_crossings 93 = .ok (.goto (-78), 3) := by decide +kernel
theorem dX6_crossings_96 : decode cX6_crossings 96 = .ok (.iload_n 3, 1) := by decide +kernel
theorem dX6_crossings_97 : decode cX6_crossings 97 = .ok (.ireturn, 1) := by decide +kernel
theorem dX6_vote_0 : decode cX6_vote 0 = .ok (.iload_n 1, 1) := by decide +kernel
theorem dX6_vote_1 : decode cX6_vote 1 = .ok (.ifCond .lt 9, 3) := by decide +kernel
theorem dX6_vote_4 : decode cX6_vote 4 = .ok (.iload_n 1, 1) := by decide +kernel
theorem dX6_vote_5 : decode cX6_vote 5 = .ok (.bipush 6, 2) := by decide +kernel
theorem dX6_vote_7 : decode cX6_vote 7 = .ok (.if_icmp .lt 13, 3) := by decide +kernel
theorem dX6_vote_10 : decode cX6_vote 10 = .ok (.new 123, 3) := by decide +kernel
theorem dX6_vote_13 : decode cX6_vote 13 = .ok (.dup, 1) := by decide +kernel
theorem dX6_vote_14 : decode cX6_vote 14 = .ok (.ldc 161, 2) := by decide +kernel
theorem dX6_vote_16 : decode cX6_vote 16 = .ok (.invokespecial 127, 3) := by decide +kernel
theorem dX6_vote_19 : decode cX6_vote 19 = .ok (.athrow, 1) := by decide +kernel
theorem dX6_vote_20 : decode cX6_vote 20 = .ok (.aload_n 0, 1) := by decide +kernel
theorem dX6_vote_21 : decode cX6_vote 21 = .ok (.iload_n 2, 1) := by decide +kernel
theorem dX6_vote_22 : decode cX6_vote 22 = .ok (.invokevirtual 94, 3) := by decide +kernel
theorem dX6_vote_25 : decode cX6_vote 25 = .ok (.iload_n 3, 1) := by decide +kernel
theorem dX6_vote_26 : decode cX6_vote 26 = .ok (.iconst (-1), 1) := by decide +kernel
theorem dX6_vote_27 : decode cX6_vote 27 = .ok (.if_icmp .eq 7, 3) := by decide +kernel
theorem dX6_vote_30 : decode cX6_vote 30 = .ok (.iload_n 3, 1) := by decide +kernel
theorem dX6_vote_31 : decode cX6_vote 31 = .ok (.invokestatic 163, 3) := by decide +kernel
theorem dX6_vote_34 : decode cX6_vote 34 = .ok (.aload_n 0, 1) := by decide +kernel
theorem dX6_vote_35 : decode cX6_vote 35 = .ok (.getfield 26, 3) := by decide +kernel
theorem dX6_vote_38 : decode cX6_vote 38 = .ok (.iload_n 1, 1) := by decide +kernel
theorem dX6_vote_39 : decode cX6_vote 39 = .ok (.iload_n 2, 1) := by decide +kernel
theorem dX6_vote_40 : decode cX6_vote 40 = .ok (.iload_n 3, 1) := by decide +kernel
theorem dX6_vote_41 : decode cX6_vote 41 = .ok (.invokevirtual 166, 3) := by decide +kernel
theorem dX6_vote_44 : decode cX6_vote 44 = .ok (.ireturn, 1) := by decide +kernel
theorem dX6_votes_0 : decode cX6_votes 0 = .ok (.aload_n 0, 1) := by decide +kernel
theorem dX6_votes_1 : decode cX6_votes 1 = .ok (.iload_n 1, 1) := by decide +kernel
theorem dX6_votes_2 : decode cX6_votes 2 = .ok (.invokevirtual 94, 3) := by decide +kernel
theorem dX6_votes_5 : decode cX6_votes 5 = .ok (.iload_n 2, 1) := by decide +kernel
theorem dX6_votes_6 : decode cX6_votes 6 = .ok (.invokestatic 163, 3) := by decide +kernel
theorem dX6_votes_9 : decode cX6_votes 9 = .ok (.aload_n 0, 1) := by decide +kernel
theorem dX6_votes_10 : decode cX6_votes 10 = .ok (.getfield 26, 3) := by decide +kernel
theorem dX6_votes_13 : decode cX6_votes 13 = .ok (.getfield 170, 3) := by decide +kernel
theorem dX6_votes_16 : decode cX6_votes 16 = .ok (.iload_n 1, 1) := by decide +kernel
theorem dX6_votes_17 : decode cX6_votes 17 = .ok (.bipush 10, 2) := by decide +kernel
theorem dX6_votes_19 : decode cX6_votes 19 = .ok (.imul, 1) := by decide +kernel
theorem dX6_votes_20 : decode cX6_votes 20 = .ok (.iload_n 2, 1) := by decide +kernel
theorem dX6_votes_21 : decode cX6_votes 21 = .ok (.iadd, 1) := by decide +kernel
theorem dX6_votes_22 : decode cX6_votes 22 = .ok (.iaload, 1) := by decide +kernel
theorem dX6_votes_23 : decode cX6_votes 23 = .ok (.ireturn, 1) := by decide +kernel
theorem dX6_nameOf_0 : decode cX6_nameOf 0 = .ok (.aload_n 0, 1) := by decide +kernel
theorem dX6_nameOf_1 : decode cX6_nameOf 1 = .ok (.iload_n 1, 1) := by decide +kernel
theorem dX6_nameOf_2 : decode cX6_nameOf 2 = .ok (.invokevirtual 94, 3) := by decide +kernel
theorem dX6_nameOf_5 : decode cX6_nameOf 5 = .ok (.aload_n 0, 1) := by decide +kernel
theorem dX6_nameOf_6 : decode cX6_nameOf 6 = .ok (.getfield 26, 3) := by decide +kernel
theorem dX6_nameOf_9 : decode cX6_nameOf 9 = .ok (.getfield 173, 3) := by decide +kernel
theorem dX6_nameOf_12 : decode cX6_nameOf 12 = .ok (.iload_n 1, 1) := by decide +kernel
theorem dX6_nameOf_13 : decode cX6_nameOf 13 = .ok (.iaload, 1) := by decide +kernel
theorem dX6_nameOf_14 : decode cX6_nameOf 14 = .ok (.ireturn, 1) := by decide +kernel
theorem dX6_height_0 : decode cX6_height 0 = .ok (.aload_n 0, 1) := by decide +kernel
theorem dX6_height_1 : decode cX6_height 1 = .ok (.iload_n 1, 1) := by decide +kernel
theorem dX6_height_2 : decode cX6_height 2 = .ok (.invokevirtual 63, 3) := by decide +kernel
theorem dX6_height_5 : decode cX6_height 5 = .ok (.iload_n 2, 1) := by decide +kernel
theorem dX6_height_6 : decode cX6_height 6 = .ok (.invokestatic 176, 3) := by decide +kernel
theorem dX6_height_9 : decode cX6_height 9 = .ok (.iload_n 3, 1) := by decide +kernel
theorem dX6_height_10 : decode cX6_height 10 = .ok (.invokestatic 179, 3) := by decide +kernel
theorem dX6_height_13 : decode cX6_height 13 = .ok (.iload 4, 2) := by decide +kernel
theorem dX6_height_15 : decode cX6_height 15 = .ok (.invokestatic 182, 3) := by decide +kernel
theorem dX6_height_18 : decode cX6_height 18 = .ok (.aload_n 0, 1) := by decide +kernel
theorem dX6_height_19 : decode cX6_height 19 = .ok (.getfield 12, 3) := by decide +kernel
theorem dX6_height_22 : decode cX6_height 22 = .ok (.iload_n 1, 1) := by decide +kernel
theorem dX6_height_23 : decode cX6_height 23 = .ok (.iload_n 2, 1) := by decide +kernel
theorem dX6_height_24 : decode cX6_height 24 = .ok (.iload_n 3, 1) := by decide +kernel
theorem dX6_height_25 : decode cX6_height 25 = .ok (.iload 4, 2) := by decide +kernel
theorem dX6_height_27 : decode cX6_height 27 = .ok (.invokestatic 185, 3) := by decide +kernel
theorem dX6_height_30 : decode cX6_height 30 = .ok (.invokevirtual 188, 3) := by decide +kernel
theorem dX6_height_33 : decode cX6_height 33 = .ok (.ireturn, 1) := by decide +kernel
theorem dX6_isUp_0 : decode cX6_isUp 0 = .ok (.aload_n 0, 1) := by decide +kernel
theorem dX6_isUp_1 : decode cX6_isUp 1 = .ok (.iload_n 1, 1) := by decide +kernel
theorem dX6_isUp_2 : decode cX6_isUp 2 = .ok (.invokevirtual 94, 3) := by decide +kernel
theorem dX6_isUp_5 : decode cX6_isUp 5 = .ok (.iload_n 2, 1) := by decide +kernel
theorem dX6_isUp_6 : decode cX6_isUp 6 = .ok (.invokestatic 176, 3) := by decide +kernel
theorem dX6_isUp_9 : decode cX6_isUp 9 = .ok (.iload_n 3, 1) := by decide +kernel
theorem dX6_isUp_10 : decode cX6_isUp 10 = .ok (.invokestatic 179, 3) := by decide +kernel
theorem dX6_isUp_13 : decode cX6_isUp 13 = .ok (.iload 4, 2) := by decide +kernel
theorem dX6_isUp_15 : decode cX6_isUp 15 = .ok (.invokestatic 182, 3) := by decide +kernel
theorem dX6_isUp_18 : decode cX6_isUp 18 = .ok (.aload_n 0, 1) := by decide +kernel
theorem dX6_isUp_19 : decode cX6_isUp 19 = .ok (.iload_n 1, 1) := by decide +kernel
theorem dX6_isUp_20 : decode cX6_isUp 20 = .ok (.iload_n 2, 1) := by decide +kernel
theorem dX6_isUp_21 : decode cX6_isUp 21 = .ok (.iload_n 3, 1) := by decide +kernel
theorem dX6_isUp_22 : decode cX6_isUp 22 = .ok (.iload 4, 2) := by decide +kernel
theorem dX6_isUp_24 : decode cX6_isUp 24 = .ok (.invokestatic 185, 3) := by decide +kernel
theorem dX6_isUp_27 : decode cX6_isUp 27 = .ok (.invokevirtual 191, 3) := by decide +kernel
theorem dX6_isUp_30 : decode cX6_isUp 30 = .ok (.ireturn, 1) := by decide +kernel
theorem dX6_hours_0 : decode cX6_hours 0 = .ok (.aload_n 0, 1) := by decide +kernel
theorem dX6_hours_1 : decode cX6_hours 1 = .ok (.iload_n 1, 1) := by decide +kernel
theorem dX6_hours_2 : decode cX6_hours 2 = .ok (.invokevirtual 94, 3) := by decide +kernel
theorem dX6_hours_5 : decode cX6_hours 5 = .ok (.iload_n 2, 1) := by decide +kernel
theorem dX6_hours_6 : decode cX6_hours 6 = .ok (.invokestatic 176, 3) := by decide +kernel
theorem dX6_hours_9 : decode cX6_hours 9 = .ok (.iload_n 3, 1) := by decide +kernel
theorem dX6_hours_10 : decode cX6_hours 10 = .ok (.invokestatic 179, 3) := by decide +kernel
theorem dX6_hours_13 : decode cX6_hours 13 = .ok (.iconst 0, 1) := by decide +kernel
theorem dX6_hours_14 : decode cX6_hours 14 = .ok (.istore 4, 2) := by decide +kernel
theorem dX6_hours_16 : decode cX6_hours 16 = .ok (.iconst 0, 1) := by decide +kernel
theorem dX6_hours_17 : decode cX6_hours 17 = .ok (.istore 5, 2) := by decide +kernel
theorem dX6_hours_19 : decode cX6_hours 19 = .ok (.iload 5, 2) := by decide +kernel
theorem dX6_hours_21 : decode cX6_hours 21 = .ok (.bipush 24, 2) := by decide +kernel
theorem dX6_hours_23 : decode cX6_hours 23 = .ok (.if_icmp .ge 33, 3) := by decide +kernel
theorem dX6_hours_26 : decode cX6_hours 26 = .ok (.aload_n 0, 1) := by decide +kernel
theorem dX6_hours_27 : decode cX6_hours 27 = .ok (.iload_n 1, 1) := by decide +kernel
theorem dX6_hours_28 : decode cX6_hours 28 = .ok (.iload_n 2, 1) := by decide +kernel
theorem dX6_hours_29 : decode cX6_hours 29 = .ok (.iload_n 3, 1) := by decide +kernel
theorem dX6_hours_30 : decode cX6_hours 30 = .ok (.iload 5, 2) := by decide +kernel
theorem dX6_hours_32 : decode cX6_hours 32 = .ok (.invokestatic 185, 3) := by decide +kernel
theorem dX6_hours_35 : decode cX6_hours 35 = .ok (.invokevirtual 191, 3) := by decide +kernel
theorem dX6_hours_38 : decode cX6_hours 38 = .ok (.ifCond .eq 12, 3) := by decide +kernel
theorem dX6_hours_41 : decode cX6_hours 41 = .ok (.iload 4, 2) := by decide +kernel
theorem dX6_hours_43 : decode cX6_hours 43 = .ok (.iconst 1, 1) := by decide +kernel
theorem dX6_hours_44 : decode cX6_hours 44 = .ok (.iload 5, 2) := by decide +kernel
theorem dX6_hours_46 : decode cX6_hours 46 = .ok (.ishl, 1) := by decide +kernel
theorem dX6_hours_47 : decode cX6_hours 47 = .ok (.ior, 1) := by decide +kernel
theorem dX6_hours_48 : decode cX6_hours 48 = .ok (.istore 4, 2) := by decide +kernel
theorem dX6_hours_50 : decode cX6_hours 50 = .ok (.iinc 5 1, 3) := by decide +kernel
theorem dX6_hours_53 : decode cX6_hours 53 = .ok (.goto (-34), 3) := by decide +kernel
theorem dX6_hours_56 : decode cX6_hours 56 = .ok (.iload 4, 2) := by decide +kernel
theorem dX6_hours_58 : decode cX6_hours 58 = .ok (.ireturn, 1) := by decide +kernel
theorem dX6_hoursByStars_0 : decode cX6_hoursByStars 0 = .ok (.aload_n 0, 1) := by decide +kernel
theorem dX6_hoursByStars_1 : decode cX6_hoursByStars 1 = .ok (.iload_n 1, 1) := by decide +kernel
theorem dX6_hoursByStars_2 : decode cX6_hoursByStars 2 = .ok (.invokevirtual 94, 3) := by decide +kernel
theorem dX6_hoursByStars_5 : decode cX6_hoursByStars 5 = .ok (.iload_n 2, 1) := by decide +kernel
theorem dX6_hoursByStars_6 : decode cX6_hoursByStars 6 = .ok (.invokestatic 176, 3) := by decide +kernel
theorem dX6_hoursByStars_9 : decode cX6_hoursByStars 9 = .ok (.iload_n 3, 1) := by decide +kernel
theorem dX6_hoursByStars_10 : decode cX6_hoursByStars 10 = .ok (.invokestatic 179, 3) := by decide +kernel
theorem dX6_hoursByStars_13 : decode cX6_hoursByStars 13 = .ok (.aload_n 0, 1) := by decide +kernel
theorem dX6_hoursByStars_14 : decode cX6_hoursByStars 14 = .ok (.getfield 19, 3) := by decide +kernel
theorem dX6_hoursByStars_17 : decode cX6_hoursByStars 17 = .ok (.getfield 102, 3) := by decide +kernel
theorem dX6_hoursByStars_20 : decode cX6_hoursByStars 20 = .ok (.iload_n 1, 1) := by decide +kernel
theorem dX6_hoursByStars_21 : decode cX6_hoursByStars 21 = .ok (.iaload, 1) := by decide +kernel
theorem dX6_hoursByStars_22 : decode cX6_hoursByStars 22 = .ok (.istore 4, 2) := by decide +kernel
theorem dX6_hoursByStars_24 : decode cX6_hoursByStars 24 = .ok (.iload 4, 2) := by decide +kernel
theorem dX6_hoursByStars_26 : decode cX6_hoursByStars 26 = .ok (.ifCond .ne 7, 3) := by decide +kernel
theorem dX6_hoursByStars_29 : decode cX6_hoursByStars 29 = .ok (.iconst 0, 1) := by decide +kernel
theorem dX6_hoursByStars_30 : decode cX6_hoursByStars 30 = .ok (.goto 5, 3) := by decide +kernel
theorem dX6_hoursByStars_33 : decode cX6_hoursByStars 33 = .ok (.ldc 194, 2) := by decide +kernel
theorem dX6_hoursByStars_35 : decode cX6_hoursByStars 35 = .ok (.istore 5, 2) := by decide +kernel
theorem dX6_hoursByStars_37 : decode cX6_hoursByStars 37 = .ok (.iconst 0, 1) := by decide +kernel
theorem dX6_hoursByStars_38 : decode cX6_hoursByStars 38 = .ok (.istore 6, 2) := by decide +kernel
theorem dX6_hoursByStars_40 : decode cX6_hoursByStars 40 = .ok (.iload 6, 2) := by decide +kernel
theorem dX6_hoursByStars_42 : decode cX6_hoursByStars 42 = .ok (.iload 4, 2) := by decide +kernel
theorem dX6_hoursByStars_44 : decode cX6_hoursByStars 44 = .ok (.if_icmp .ge 59, 3) := by decide +kernel
theorem dX6_hoursByStars_47 : decode cX6_hoursByStars 47 = .ok (.iload_n 1, 1) := by decide +kernel
theorem dX6_hoursByStars_48 : decode cX6_hoursByStars 48 = .ok (.iload 6, 2) := by decide +kernel
theorem dX6_hoursByStars_50 : decode cX6_hoursByStars 50 = .ok (.invokestatic 128, 3) := by decide +kernel
theorem dX6_hoursByStars_53 : decode cX6_hoursByStars 53 = .ok (.istore 7, 2) := by decide +kernel
theorem dX6_hoursByStars_55 : decode cX6_hoursByStars 55 = .ok (.iload 5, 2) := by decide +kernel
theorem dX6_hoursByStars_57 : decode cX6_hoursByStars 57 = .ok (.aload_n 0, 1) := by decide +kernel
theorem dX6_hoursByStars_58 : decode cX6_hoursByStars 58 = .ok (.aload_n 0, 1) := by decide +kernel
theorem dX6_hoursByStars_59 : decode cX6_hoursByStars 59 = .ok (.getfield 19, 3) := by decide +kernel
theorem dX6_hoursByStars_62 : decode cX6_hoursByStars 62 = .ok (.getfield 131, 3) := by decide +kernel
theorem dX6_hoursByStars_65 : decode cX6_hoursByStars 65 = .ok (.iload 7, 2) := by decide +kernel
theorem dX6_hoursByStars_67 : decode cX6_hoursByStars 67 = .ok (.iaload, 1) := by decide +kernel
theorem dX6_hoursByStars_68 : decode cX6_hoursByStars 68 = .ok (.iload_n 2, 1) := by decide +kernel
theorem dX6_hoursByStars_69 : decode cX6_hoursByStars 69 = .ok (.iload_n 3, 1) := by decide +kernel
theorem dX6_hoursByStars_70 : decode cX6_hoursByStars 70 = .ok (.invokevirtual 195, 3) := by decide +kernel
theorem dX6_hoursByStars_73 : decode cX6_hoursByStars 73 = .ok (.iand, 1) := by decide +kernel
theorem dX6_hoursByStars_74 : decode cX6_hoursByStars 74 = .ok (.istore 5, 2) := by decide +kernel
theorem dX6_hoursByStars_76 : decode cX6_hoursByStars 76 = .ok (.iload 5, 2) := by decide +kernel
theorem dX6_hoursByStars_78 : decode cX6_hoursByStars 78 = .ok (.aload_n 0, 1) := by decide +kernel
theorem dX6_hoursByStars_79 : decode cX6_hoursByStars 79 = .ok (.aload_n 0, 1) := by decide +kernel
theorem dX6_hoursByStars_80 : decode cX6_hoursByStars 80 = .ok (.getfield 19, 3) := by decide +kernel
theorem dX6_hoursByStars_83 : decode cX6_hoursByStars 83 = .ok (.getfield 134, 3) := by decide +kernel
theorem dX6_hoursByStars_86 : decode cX6_hoursByStars 86 = .ok (.iload 7, 2) := by decide +kernel
theorem dX6_hoursByStars_88 : decode cX6_hoursByStars 88 = .ok (.iaload, 1) := by decide +kernel
theorem dX6_hoursByStars_89 : decode cX6_hoursByStars 89 = .ok (.iload_n 2, 1) := by decide +kernel
theorem dX6_hoursByStars_90 : decode cX6_hoursByStars 90 = .ok (.iload_n 3, 1) := by decide +kernel
theorem dX6_hoursByStars_91 : decode cX6_hoursByStars 91 = .ok (.invokevirtual 195, 3) := by decide +kernel
theorem dX6_hoursByStars_94 : decode cX6_hoursByStars 94 = .ok (.iand, 1) := by decide +kernel
theorem dX6_hoursByStars_95 : decode cX6_hoursByStars 95 = .ok (.istore 5, 2) := by decide +kernel
theorem dX6_hoursByStars_97 : decode cX6_hoursByStars 97 = .ok (.iinc 6 1, 3) := by decide +kernel
theorem dX6_hoursByStars_100 : decode cX6_hoursByStars 100 = .ok (.goto (-60), 3) := by decide +kernel
theorem dX6_hoursByStars_103 : decode cX6_hoursByStars 103 = .ok (.iload 5, 2) := by decide +kernel
theorem dX6_hoursByStars_105 : decode cX6_hoursByStars 105 = .ok (.ireturn, 1) := by decide +kernel
end
section
theorem dX6_bestHour_0 : decode cX6_bestHour 0 = .ok (.aload_n 0, 1) := by decide +kernel
theorem dX6_bestHour_1 : decode cX6_bestHour 1 = .ok (.iload_n 1, 1) := by decide +kernel
theorem dX6_bestHour_2 : decode cX6_bestHour 2 = .ok (.invokevirtual 94, 3) := by decide +kernel
theorem dX6_bestHour_5 : decode cX6_bestHour 5 = .ok (.iload_n 2, 1) := by decide +kernel
theorem dX6_bestHour_6 : decode cX6_bestHour 6 = .ok (.invokestatic 176, 3) := by decide +kernel
theorem dX6_bestHour_9 : decode cX6_bestHour 9 = .ok (.iload_n 3, 1) := by decide +kernel
theorem dX6_bestHour_10 : decode cX6_bestHour 10 = .ok (.invokestatic 179, 3) := by decide +kernel
theorem dX6_bestHour_13 : decode cX6_bestHour 13 = .ok (.iconst (-1), 1) := by decide +kernel
theorem dX6_bestHour_14 : decode cX6_bestHour 14 = .ok (.istore 4, 2) := by decide +kernel
theorem dX6_bestHour_16 : decode cX6_bestHour 16 = .ok (.iconst 0, 1) := by decide +kernel
theorem dX6_bestHour_17 : decode cX6_bestHour 17 = .ok (.istore 5, 2) := by decide +kernel
theorem dX6_bestHour_19 : decode cX6_bestHour 19 = .ok (.iconst 0, 1) := by decide +kernel
theorem dX6_bestHour_20 : decode cX6_bestHour 20 = .ok (.istore 6, 2) := by decide +kernel
theorem dX6_bestHour_22 : decode cX6_bestHour 22 = .ok (.iload 6, 2) := by decide +kernel
theorem dX6_bestHour_24 : decode cX6_bestHour 24 = .ok (.bipush 24, 2) := by decide +kernel
theorem dX6_bestHour_26 : decode cX6_bestHour 26 = .ok (.if_icmp .ge 38, 3) := by decide +kernel
theorem dX6_bestHour_29 : decode cX6_bestHour 29 = .ok (.aload_n 0, 1) := by decide +kernel
theorem dX6_bestHour_30 : decode cX6_bestHour 30 = .ok (.iload_n 1, 1) := by decide +kernel
theorem dX6_bestHour_31 : decode cX6_bestHour 31 = .ok (.iload_n 2, 1) := by decide +kernel
theorem dX6_bestHour_32 : decode cX6_bestHour 32 = .ok (.iload_n 3, 1) := by decide +kernel
theorem dX6_bestHour_33 : decode cX6_bestHour 33 = .ok (.iload 6, 2) := by decide +kernel
theorem dX6_bestHour_35 : decode cX6_bestHour 35 = .ok (.invokestatic 185, 3) := by decide +kernel
theorem dX6_bestHour_38 : decode cX6_bestHour 38 = .ok (.invokevirtual 198, 3) := by decide +kernel
theorem dX6_bestHour_41 : decode cX6_bestHour 41 = .ok (.istore 7, 2) := by decide +kernel
theorem dX6_bestHour_43 : decode cX6_bestHour 43 = .ok (.iload 7, 2) := by decide +kernel
theorem dX6_bestHour_45 : decode cX6_bestHour 45 = .ok (.iload 5, 2) := by decide +kernel
theorem dX6_bestHour_47 : decode cX6_bestHour 47 = .ok (.if_icmp .le 11, 3) := by decide +kernel
theorem dX6_bestHour_50 : decode cX6_bestHour 50 = .ok (.iload 6, 2) := by decide +kernel
theorem dX6_bestHour_52 : decode cX6_bestHour 52 = .ok (.istore 4, 2) := by decide +kernel
theorem dX6_bestHour_54 : decode cX6_bestHour 54 = .ok (.iload 7, 2) := by decide +kernel
theorem dX6_bestHour_56 : decode cX6_bestHour 56 = .ok (.istore 5, 2) := by decide +kernel
theorem dX6_bestHour_58 : decode cX6_bestHour 58 = .ok (.iinc 6 1, 3) := by decide +kernel
theorem dX6_bestHour_61 : decode cX6_bestHour 61 = .ok (.goto (-39), 3) := by decide +kernel
theorem dX6_bestHour_64 : decode cX6_bestHour 64 = .ok (.iload 4, 2) := by decide +kernel
theorem dX6_bestHour_66 : decode cX6_bestHour 66 = .ok (.ireturn, 1) := by decide +kernel
theorem dX6_season_0 : decode cX6_season 0 = .ok (.aload_n 0, 1) := by decide +kernel
theorem dX6_season_1 : decode cX6_season 1 = .ok (.iload_n 1, 1) := by decide +kernel
theorem dX6_season_2 : decode cX6_season 2 = .ok (.invokevirtual 94, 3) := by decide +kernel
theorem dX6_season_5 : decode cX6_season 5 = .ok (.iload_n 2, 1) := by decide +kernel
theorem dX6_season_6 : decode cX6_season 6 = .ok (.invokestatic 176, 3) := by decide +kernel
theorem dX6_season_9 : decode cX6_season 9 = .ok (.iload_n 3, 1) := by decide +kernel
theorem dX6_season_10 : decode cX6_season 10 = .ok (.invokestatic 182, 3) := by decide +kernel
theorem dX6_season_13 : decode cX6_season 13 = .ok (.iconst 0, 1) := by decide +kernel
theorem dX6_season_14 : decode cX6_season 14 = .ok (.istore 4, 2) := by decide +kernel
theorem dX6_season_16 : decode cX6_season 16 = .ok (.iconst 0, 1) := by decide +kernel
theorem dX6_season_17 : decode cX6_season 17 = .ok (.istore 5, 2) := by decide +kernel
theorem dX6_season_19 : decode cX6_season 19 = .ok (.iload 5, 2) := by decide +kernel
theorem dX6_season_21 : decode cX6_season 21 = .ok (.sipush 365, 3) := by decide +kernel
theorem dX6_season_24 : decode cX6_season 24 = .ok (.if_icmp .ge 27, 3) := by decide +kernel
theorem dX6_season_27 : decode cX6_season 27 = .ok (.aload_n 0, 1) := by decide +kernel
theorem dX6_season_28 : decode cX6_season 28 = .ok (.iload_n 1, 1) := by decide +kernel
theorem dX6_season_29 : decode cX6_season 29 = .ok (.iload_n 2, 1) := by decide +kernel
theorem dX6_season_30 : decode cX6_season 30 = .ok (.iload 5, 2) := by decide +kernel
theorem dX6_season_32 : decode cX6_season 32 = .ok (.iload_n 3, 1) := by decide +kernel
theorem dX6_season_33 : decode cX6_season 33 = .ok (.invokestatic 185, 3) := by decide +kernel
theorem dX6_season_36 : decode cX6_season 36 = .ok (.invokevirtual 191, 3) := by decide +kernel
theorem dX6_season_39 : decode cX6_season 39 = .ok (.ifCond .eq 6, 3) := by decide +kernel
theorem dX6_season_42 : decode cX6_season 42 = .ok (.iinc 4 1, 3) := by decide +kernel
theorem dX6_season_45 : decode cX6_season 45 = .ok (.iinc 5 1, 3) := by decide +kernel
theorem dX6_season_48 : decode cX6_season 48 = .ok (.goto (-29), 3) := by decide +kernel
theorem dX6_season_51 : decode cX6_season 51 = .ok (.iload 4, 2) := by decide +kernel
theorem dX6_season_53 : decode cX6_season 53 = .ok (.ireturn, 1) := by decide +kernel
theorem dX6_plan_0 : decode cX6_plan 0 = .ok (.aload_n 0, 1) := by decide +kernel
theorem dX6_plan_1 : decode cX6_plan 1 = .ok (.iload_n 1, 1) := by decide +kernel
theorem dX6_plan_2 : decode cX6_plan 2 = .ok (.invokevirtual 94, 3) := by decide +kernel
theorem dX6_plan_5 : decode cX6_plan 5 = .ok (.iload_n 2, 1) := by decide +kernel
theorem dX6_plan_6 : decode cX6_plan 6 = .ok (.invokestatic 176, 3) := by decide +kernel
theorem dX6_plan_9 : decode cX6_plan 9 = .ok (.iload_n 3, 1) := by decide +kernel
theorem dX6_plan_10 : decode cX6_plan 10 = .ok (.invokestatic 179, 3) := by decide +kernel
theorem dX6_plan_13 : decode cX6_plan 13 = .ok (.iload 4, 2) := by decide +kernel
theorem dX6_plan_15 : decode cX6_plan 15 = .ok (.invokestatic 182, 3) := by decide +kernel
theorem dX6_plan_18 : decode cX6_plan 18 = .ok (.iload_n 3, 1) := by decide +kernel
theorem dX6_plan_19 : decode cX6_plan 19 = .ok (.iload 4, 2) := by decide +kernel
theorem dX6_plan_21 : decode cX6_plan 21 = .ok (.invokestatic 185, 3) := by decide +kernel
theorem dX6_plan_24 : decode cX6_plan 24 = .ok (.istore 5, 2) := by decide +kernel
theorem dX6_plan_26 : decode cX6_plan 26 = .ok (.aload_n 0, 1) := by decide +kernel
theorem dX6_plan_27 : decode cX6_plan 27 = .ok (.iload_n 1, 1) := by decide +kernel
theorem dX6_plan_28 : decode cX6_plan 28 = .ok (.iload_n 2, 1) := by decide +kernel
theorem dX6_plan_29 : decode cX6_plan 29 = .ok (.iload 5, 2) := by decide +kernel
theorem dX6_plan_31 : decode cX6_plan 31 = .ok (.invokevirtual 191, 3) := by decide +kernel
theorem dX6_plan_34 : decode cX6_plan 34 = .ok (.ifCond .ne 13, 3) := by decide +kernel
theorem dX6_plan_37 : decode cX6_plan 37 = .ok (.new 52, 3) := by decide +kernel
theorem dX6_plan_40 : decode cX6_plan 40 = .ok (.dup, 1) := by decide +kernel
theorem dX6_plan_41 : decode cX6_plan 41 = .ok (.ldc 201, 2) := by decide +kernel
theorem dX6_plan_43 : decode cX6_plan 43 = .ok (.invokespecial 56, 3) := by decide +kernel
theorem dX6_plan_46 : decode cX6_plan 46 = .ok (.athrow, 1) := by decide +kernel
theorem dX6_plan_47 : decode cX6_plan 47 = .ok (.aload_n 0, 1) := by decide +kernel
theorem dX6_plan_48 : decode cX6_plan 48 = .ok (.getfield 26, 3) := by decide +kernel
theorem dX6_plan_51 : decode cX6_plan 51 = .ok (.getfield 173, 3) := by decide +kernel
theorem dX6_plan_54 : decode cX6_plan 54 = .ok (.iload_n 1, 1) := by decide +kernel
theorem dX6_plan_55 : decode cX6_plan 55 = .ok (.iaload, 1) := by decide +kernel
theorem dX6_plan_56 : decode cX6_plan 56 = .ok (.istore 6, 2) := by decide +kernel
theorem dX6_plan_58 : decode cX6_plan 58 = .ok (.iload 6, 2) := by decide +kernel
theorem dX6_plan_60 : decode cX6_plan 60 = .ok (.iconst (-1), 1) := by decide +kernel
theorem dX6_plan_61 : decode cX6_plan 61 = .ok (.if_icmp .ne 13, 3) := by decide +kernel
theorem dX6_plan_64 : decode cX6_plan 64 = .ok (.new 52, 3) := by decide +kernel
theorem dX6_plan_67 : decode cX6_plan 67 = .ok (.dup, 1) := by decide +kernel
theorem dX6_plan_68 : decode cX6_plan 68 = .ok (.ldc 203, 2) := by decide +kernel
theorem dX6_plan_70 : decode cX6_plan 70 = .ok (.invokespecial 56, 3) := by decide +kernel
theorem dX6_plan_73 : decode cX6_plan 73 = .ok (.athrow, 1) := by decide +kernel
theorem dX6_plan_74 : decode cX6_plan 74 = .ok (.aload_n 0, 1) := by decide +kernel
theorem dX6_plan_75 : decode cX6_plan 75 = .ok (.getfield 33, 3) := by decide +kernel
theorem dX6_plan_78 : decode cX6_plan 78 = .ok (.getfield 205, 3) := by decide +kernel
theorem dX6_plan_81 : decode cX6_plan 81 = .ok (.bipush 12, 2) := by decide +kernel
theorem dX6_plan_83 : decode cX6_plan 83 = .ok (.if_icmp .lt 13, 3) := by decide +kernel
theorem dX6_plan_86 : decode cX6_plan 86 = .ok (.new 52, 3) := by decide +kernel
theorem dX6_plan_89 : decode cX6_plan 89 = .ok (.dup, 1) := by decide +kernel
theorem dX6_plan_90 : decode cX6_plan 90 = .ok (.ldc 208, 2) := by decide +kernel
theorem dX6_plan_92 : decode cX6_plan 92 = .ok (.invokespecial 56, 3) := by decide +kernel
theorem dX6_plan_95 : decode cX6_plan 95 = .ok (.athrow, 1) := by decide +kernel
theorem dX6_plan_96 : decode cX6_plan 96 = .ok (.aload_n 0, 1) := by decide +kernel
theorem dX6_plan_97 : decode cX6_plan 97 = .ok (.getfield 33, 3) := by decide +kernel
theorem dX6_plan_100 : decode cX6_plan 100 = .ok (.iload_n 1, 1) := by decide +kernel
theorem dX6_plan_101 : decode cX6_plan 101 = .ok (.iload 6, 2) := by decide +kernel
theorem dX6_plan_103 : decode cX6_plan 103 = .ok (.iload_n 2, 1) := by decide +kernel
theorem dX6_plan_104 : decode cX6_plan 104 = .ok (.iload 5, 2) := by decide +kernel
theorem dX6_plan_106 : decode cX6_plan 106 = .ok (.invokevirtual 210, 3) := by decide +kernel
theorem dX6_plan_109 : decode cX6_plan 109 = .ok (.ireturn, 1) := by decide +kernel
theorem dX6_isWrong_0 : decode cX6_isWrong 0 = .ok (.iload_n 1, 1) := by decide +kernel
theorem dX6_isWrong_1 : decode cX6_isWrong 1 = .ok (.ifCond .lt 14, 3) := by decide +kernel
theorem dX6_isWrong_4 : decode cX6_isWrong 4 = .ok (.iload_n 1, 1) := by decide +kernel
theorem dX6_isWrong_5 : decode cX6_isWrong 5 = .ok (.aload_n 0, 1) := by decide +kernel
theorem dX6_isWrong_6 : decode cX6_isWrong 6 = .ok (.getfield 33, 3) := by decide +kernel
theorem dX6_isWrong_9 : decode cX6_isWrong 9 = .ok (.getfield 205, 3) := by decide +kernel
theorem dX6_isWrong_12 : decode cX6_isWrong 12 = .ok (.if_icmp .lt 13, 3) := by decide +kernel
theorem dX6_isWrong_15 : decode cX6_isWrong 15 = .ok (.new 123, 3) := by decide +kernel
theorem dX6_isWrong_18 : decode cX6_isWrong 18 = .ok (.dup, 1) := by decide +kernel
theorem dX6_isWrong_19 : decode cX6_isWrong 19 = .ok (.ldc 213, 2) := by decide +kernel
theorem dX6_isWrong_21 : decode cX6_isWrong 21 = .ok (.invokespecial 127, 3) := by decide +kernel
theorem dX6_isWrong_24 : decode cX6_isWrong 24 = .ok (.athrow, 1) := by decide +kernel
theorem dX6_isWrong_25 : decode cX6_isWrong 25 = .ok (.aload_n 0, 1) := by decide +kernel
theorem dX6_isWrong_26 : decode cX6_isWrong 26 = .ok (.iload_n 1, 1) := by decide +kernel
theorem dX6_isWrong_27 : decode cX6_isWrong 27 = .ok (.invokevirtual 215, 3) := by decide +kernel
theorem dX6_isWrong_30 : decode cX6_isWrong 30 = .ok (.ireturn, 1) := by decide +kernel
theorem dX6_wrong_0 : decode cX6_wrong 0 = .ok (.aload_n 0, 1) := by decide +kernel
theorem dX6_wrong_1 : decode cX6_wrong 1 = .ok (.invokevirtual 82, 3) := by decide +kernel
theorem dX6_wrong_4 : decode cX6_wrong 4 = .ok (.ireturn, 1) := by decide +kernel
theorem dX6_needStar_0 : decode cX6_needStar 0 = .ok (.iload_n 1, 1) := by decide +kernel
theorem dX6_needStar_1 : decode cX6_needStar 1 = .ok (.ifCond .lt 14, 3) := by decide +kernel
theorem dX6_needStar_4 : decode cX6_needStar 4 = .ok (.iload_n 1, 1) := by decide +kernel
theorem dX6_needStar_5 : decode cX6_needStar 5 = .ok (.aload_n 0, 1) := by decide +kernel
theorem dX6_needStar_6 : decode cX6_needStar 6 = .ok (.getfield 12, 3) := by decide +kernel
theorem dX6_needStar_9 : decode cX6_needStar 9 = .ok (.getfield 48, 3) := by decide +kernel
theorem dX6_needStar_12 : decode cX6_needStar 12 = .ok (.if_icmp .lt 13, 3) := by decide +kernel
theorem dX6_needStar_15 : decode cX6_needStar 15 = .ok (.new 123, 3) := by decide +kernel
theorem dX6_needStar_18 : decode cX6_needStar 18 = .ok (.dup, 1) := by decide +kernel
theorem dX6_needStar_19 : decode cX6_needStar 19 = .ok (.ldc 219, 2) := by decide +kernel
theorem dX6_needStar_21 : decode cX6_needStar 21 = .ok (.invokespecial 127, 3) := by decide +kernel
theorem dX6_needStar_24 : decode cX6_needStar 24 = .ok (.athrow, 1) := by decide +kernel
theorem dX6_needStar_25 : decode cX6_needStar 25 = .ok (.return_, 1) := by decide +kernel
theorem dX6_needFigure_0 : decode cX6_needFigure 0 = .ok (.iload_n 1, 1) := by decide +kernel
theorem dX6_needFigure_1 : decode cX6_needFigure 1 = .ok (.ifCond .lt 14, 3) := by decide +kernel
theorem dX6_needFigure_4 : decode cX6_needFigure 4 = .ok (.iload_n 1, 1) := by decide +kernel
theorem dX6_needFigure_5 : decode cX6_needFigure 5 = .ok (.aload_n 0, 1) := by decide +kernel
theorem dX6_needFigure_6 : decode cX6_needFigure 6 = .ok (.getfield 19, 3) := by decide +kernel
theorem dX6_needFigure_9 : decode cX6_needFigure 9 = .ok (.getfield 86, 3) := by decide +kernel
theorem dX6_needFigure_12 : decode cX6_needFigure 12 = .ok (.if_icmp .lt 13, 3) := by decide +kernel
theorem dX6_needFigure_15 : decode cX6_needFigure 15 = .ok (.new 123, 3) := by decide +kernel
theorem dX6_needFigure_18 : decode cX6_needFigure 18 = .ok (.dup, 1) := by decide +kernel
theorem dX6_needFigure_19 : decode cX6_needFigure 19 = .ok (.ldc 221, 2) := by decide +kernel
theorem dX6_needFigure_21 : decode cX6_needFigure 21 = .ok (.invokespecial 127, 3) := by decide +kernel
theorem dX6_needFigure_24 : decode cX6_needFigure 24 = .ok (.athrow, 1) := by decide +kernel
theorem dX6_needFigure_25 : decode cX6_needFigure 25 = .ok (.return_, 1) := by decide +kernel
theorem dX6_needPlace_0 : decode cX6_needPlace 0 = .ok (.iload_n 0, 1) := by decide +kernel
theorem dX6_needPlace_1 : decode cX6_needPlace 1 = .ok (.ifCond .lt 10, 3) := by decide +kernel
theorem dX6_needPlace_4 : decode cX6_needPlace 4 = .ok (.iload_n 0, 1) := by decide +kernel
theorem dX6_needPlace_5 : decode cX6_needPlace 5 = .ok (.sipush 360, 3) := by decide +kernel
theorem dX6_needPlace_8 : decode cX6_needPlace 8 = .ok (.if_icmp .lt 13, 3) := by decide +kernel
theorem dX6_needPlace_11 : decode cX6_needPlace 11 = .ok (.new 97, 3) := by decide +kernel
theorem dX6_needPlace_14 : decode cX6_needPlace 14 = .ok (.dup, 1) := by decide +kernel
theorem dX6_needPlace_15 : decode cX6_needPlace 15 = .ok (.ldc 223, 2) := by decide +kernel
theorem dX6_needPlace_17 : decode cX6_needPlace 17 = .ok (.invokespecial 101, 3) := by decide +kernel
theorem dX6_needPlace_20 : decode cX6_needPlace 20 = .ok (.athrow, 1) := by decide +kernel
theorem dX6_needPlace_21 : decode cX6_needPlace 21 = .ok (.iload_n 1, 1) := by decide +kernel
theorem dX6_needPlace_22 : decode cX6_needPlace 22 = .ok (.bipush (-90), 2) := by decide +kernel
theorem dX6_needPlace_24 : decode cX6_needPlace 24 = .ok (.if_icmp .lt 9, 3) := by decide +kernel
theorem dX6_needPlace_27 : decode cX6_needPlace 27 = .ok (.iload_n 1, 1) := by decide +kernel
theorem dX6_needPlace_28 : decode cX6_needPlace 28 = .ok (.bipush 90, 2) := by decide +kernel
theorem dX6_needPlace_30 : decode cX6_needPlace 30 = .ok (.if_icmp .le 13, 3) := by decide +kernel
theorem dX6_needPlace_33 : decode cX6_needPlace 33 = .ok (.new 97, 3) := by decide +kernel
theorem dX6_needPlace_36 : decode cX6_needPlace 36 = .ok (.dup, 1) := by decide +kernel
theorem dX6_needPlace_37 : decode cX6_needPlace 37 = .ok (.ldc 225, 2) := by decide +kernel
theorem dX6_needPlace_39 : decode cX6_needPlace 39 = .ok (.invokespecial 101, 3) := by decide +kernel
theorem dX6_needPlace_42 : decode cX6_needPlace 42 = .ok (.athrow, 1) := by decide +kernel
theorem dX6_needPlace_43 : decode cX6_needPlace 43 = .ok (.return_, 1) := by decide +kernel
theorem dX6_needName_0 : decode cX6_needName 0 = .ok (.iload_n 0, 1) := by decide +kernel
theorem dX6_needName_1 : decode cX6_needName 1 = .ok (.ifCond .lt 9, 3) := by decide +kernel
theorem dX6_needName_4 : decode cX6_needName 4 = .ok (.iload_n 0, 1) := by decide +kernel
theorem dX6_needName_5 : decode cX6_needName 5 = .ok (.bipush 10, 2) := by decide +kernel
theorem dX6_needName_7 : decode cX6_needName 7 = .ok (.if_icmp .lt 13, 3) := by decide +kernel
theorem dX6_needName_10 : decode cX6_needName 10 = .ok (.new 97, 3) := by decide +kernel
theorem dX6_needName_13 : decode cX6_needName 13 = .ok (.dup, 1) := by decide +kernel
theorem dX6_needName_14 : decode cX6_needName 14 = .ok (.ldc 227, 2) := by decide +kernel
theorem dX6_needName_16 : decode cX6_needName 16 = .ok (.invokespecial 101, 3) := by decide +kernel
theorem dX6_needName_19 : decode cX6_needName 19 = .ok (.athrow, 1) := by decide +kernel
theorem dX6_needName_20 : decode cX6_needName 20 = .ok (.return_, 1) := by decide +kernel
theorem dX6_needLatitude_0 : decode cX6_needLatitude 0 = .ok (.iload_n 0, 1) := by decide +kernel
theorem dX6_needLatitude_1 : decode cX6_needLatitude 1 = .ok (.bipush (-90), 2) := by decide +kernel
theorem dX6_needLatitude_3 : decode cX6_needLatitude 3 = .ok (.if_icmp .lt 9, 3) := by decide +kernel
theorem dX6_needLatitude_6 : decode cX6_needLatitude 6 = .ok (.iload_n 0, 1) := by decide +kernel
theorem dX6_needLatitude_7 : decode cX6_needLatitude 7 = .ok (.bipush 90, 2) := by decide +kernel
theorem dX6_needLatitude_9 : decode cX6_needLatitude 9 = .ok (.if_icmp .le 13, 3) := by decide +kernel
theorem dX6_needLatitude_12 : decode cX6_needLatitude 12 = .ok (.new 97, 3) := by decide +kernel
theorem dX6_needLatitude_15 : decode cX6_needLatitude 15 = .ok (.dup, 1) := by decide +kernel
theorem dX6_needLatitude_16 : decode cX6_needLatitude 16 = .ok (.ldc 229, 2) := by decide +kernel
theorem dX6_needLatitude_18 : decode cX6_needLatitude 18 = .ok (.invokespecial 101, 3) := by decide +kernel
theorem dX6_needLatitude_21 : decode cX6_needLatitude 21 = .ok (.athrow, 1) := by decide +kernel
theorem dX6_needLatitude_22 : decode cX6_needLatitude 22 = .ok (.return_, 1) := by decide +kernel
theorem dX6_needDay_0 : decode cX6_needDay 0 = .ok (.iload_n 0, 1) := by decide +kernel
theorem dX6_needDay_1 : decode cX6_needDay 1 = .ok (.ifCond .lt 10, 3) := by decide +kernel
theorem dX6_needDay_4 : decode cX6_needDay 4 = .ok (.iload_n 0, 1) := by decide +kernel
theorem dX6_needDay_5 : decode cX6_needDay 5 = .ok (.sipush 365, 3) := by decide +kernel
theorem dX6_needDay_8 : decode cX6_needDay 8 = .ok (.if_icmp .lt 13, 3) := by decide +kernel
theorem dX6_needDay_11 : decode cX6_needDay 11 = .ok (.new 97, 3) := by decide +kernel
theorem dX6_needDay_14 : decode cX6_needDay 14 = .ok (.dup, 1) := by decide +kernel
theorem dX6_needDay_15 : decode cX6_needDay 15 = .ok (.ldc 231, 2) := by decide +kernel
theorem dX6_needDay_17 : decode cX6_needDay 17 = .ok (.invokespecial 101, 3) := by decide +kernel
theorem dX6_needDay_20 : decode cX6_needDay 20 = .ok (.athrow, 1) := by decide +kernel
theorem dX6_needDay_21 : decode cX6_needDay 21 = .ok (.return_, 1) := by decide +kernel
theorem dX6_needHour_0 : decode cX6_needHour 0 = .ok (.iload_n 0, 1) := by decide +kernel
theorem dX6_needHour_1 : decode cX6_needHour 1 = .ok (.ifCond .lt 9, 3) := by decide +kernel
theorem dX6_needHour_4 : decode cX6_needHour 4 = .ok (.iload_n 0, 1) := by decide +kernel
theorem dX6_needHour_5 : decode cX6_needHour 5 = .ok (.bipush 24, 2) := by decide +kernel
theorem dX6_needHour_7 : decode cX6_needHour 7 = .ok (.if_icmp .lt 13, 3) := by decide +kernel
theorem dX6_needHour_10 : decode cX6_needHour 10 = .ok (.new 97, 3) := by decide +kernel
theorem dX6_needHour_13 : decode cX6_needHour 13 = .ok (.dup, 1) := by decide +kernel
theorem dX6_needHour_14 : decode cX6_needHour 14 = .ok (.ldc 233, 2) := by decide +kernel
theorem dX6_needHour_16 : decode cX6_needHour 16 = .ok (.invokespecial 101, 3) := by decide +kernel
theorem dX6_needHour_19 : decode cX6_needHour 19 = .ok (.athrow, 1) := by decide +kernel
theorem dX6_needHour_20 : decode cX6_needHour 20 = .ok (.return_, 1) := by decide +kernel
theorem dX6_takeBack_0 : decode cX6_takeBack 0 = .ok (.aload_n 0, 1) := by decide +kernel
theorem dX6_takeBack_1 : decode cX6_takeBack 1 = .ok (.getfield 40, 3) := by decide +kernel
theorem dX6_takeBack_4 : decode cX6_takeBack 4 = .ok (.getfield 235, 3) := by decide +kernel
theorem dX6_takeBack_7 : decode cX6_takeBack 7 = .ok (.iload_n 1, 1) := by decide +kernel
theorem dX6_takeBack_8 : decode cX6_takeBack 8 = .ok (.iaload, 1) := by decide +kernel
theorem dX6_takeBack_9 : decode cX6_takeBack 9 = .ok (.istore_n 2, 1) := by decide +kernel
theorem dX6_takeBack_10 : decode cX6_takeBack 10 = .ok (.aload_n 0, 1) := by decide +kernel
theorem dX6_takeBack_11 : decode cX6_takeBack 11 = .ok (.getfield 40, 3) := by decide +kernel
theorem dX6_takeBack_14 : decode cX6_takeBack 14 = .ok (.getfield 238, 3) := by decide +kernel
theorem dX6_takeBack_17 : decode cX6_takeBack 17 = .ok (.iload_n 1, 1) := by decide +kernel
theorem dX6_takeBack_18 : decode cX6_takeBack 18 = .ok (.iaload, 1) := by decide +kernel
theorem dX6_takeBack_19 : decode cX6_takeBack 19 = .ok (.istore_n 3, 1) := by decide +kernel
theorem dX6_takeBack_20 : decode cX6_takeBack 20 = .ok (.aload_n 0, 1) := by decide +kernel
theorem dX6_takeBack_21 : decode cX6_takeBack 21 = .ok (.getfield 40, 3) := by decide +kernel
theorem dX6_takeBack_24 : decode cX6_takeBack 24 = .ok (.getfield 241, 3) := by decide +kernel
theorem dX6_takeBack_27 : decode cX6_takeBack 27 = .ok (.iload_n 1, 1) := by decide +kernel
theorem dX6_takeBack_28 : decode cX6_takeBack 28 = .ok (.iaload, 1) := by decide +kernel
theorem dX6_takeBack_29 : decode cX6_takeBack 29 = .ok (.istore 4, 2) := by decide +kernel
theorem dX6_takeBack_31 : decode cX6_takeBack 31 = .ok (.aload_n 0, 1) := by decide +kernel
theorem dX6_takeBack_32 : decode cX6_takeBack 32 = .ok (.getfield 40, 3) := by decide +kernel
theorem dX6_takeBack_35 : decode cX6_takeBack 35 = .ok (.getfield 244, 3) := by decide +kernel
theorem dX6_takeBack_38 : decode cX6_takeBack 38 = .ok (.iload_n 1, 1) := by decide +kernel
theorem dX6_takeBack_39 : decode cX6_takeBack 39 = .ok (.iaload, 1) := by decide +kernel
theorem dX6_takeBack_40 : decode cX6_takeBack 40 = .ok (.istore 5, 2) := by decide +kernel
theorem dX6_takeBack_42 : decode cX6_takeBack 42 = .ok (.aload_n 0, 1) := by decide +kernel
theorem dX6_takeBack_43 : decode cX6_takeBack 43 = .ok (.getfield 40, 3) := by decide +kernel
theorem dX6_takeBack_46 : decode cX6_takeBack 46 = .ok (.getfield 247, 3) := by decide +kernel
theorem dX6_takeBack_49 : decode cX6_takeBack 49 = .ok (.iload_n 1, 1) := by decide +kernel
theorem dX6_takeBack_50 : decode cX6_takeBack 50 = .ok (.iaload, 1) := by decide +kernel
theorem dX6_takeBack_51 : decode cX6_takeBack 51 = .ok (.tableswitch 68 0 2 #[25, 40, 52], 25) := by decide +kernel
theorem dX6_takeBack_76 : decode cX6_takeBack 76 = .ok (.aload_n 0, 1) := by decide +kernel
theorem dX6_takeBack_77 : decode cX6_takeBack 77 = .ok (.getfield 12, 3) := by decide +kernel
theorem dX6_takeBack_80 : decode cX6_takeBack 80 = .ok (.iload_n 2, 1) := by decide +kernel
theorem dX6_takeBack_81 : decode cX6_takeBack 81 = .ok (.iload 4, 2) := by decide +kernel
theorem dX6_takeBack_83 : decode cX6_takeBack 83 = .ok (.iload 5, 2) := by decide +kernel
theorem dX6_takeBack_85 : decode cX6_takeBack 85 = .ok (.invokevirtual 78, 3) := by decide +kernel
theorem dX6_takeBack_88 : decode cX6_takeBack 88 = .ok (.goto 31, 3) := by decide +kernel
theorem dX6_takeBack_91 : decode cX6_takeBack 91 = .ok (.aload_n 0, 1) := by decide +kernel
theorem dX6_takeBack_92 : decode cX6_takeBack 92 = .ok (.getfield 19, 3) := by decide +kernel
theorem dX6_takeBack_95 : decode cX6_takeBack 95 = .ok (.iload_n 2, 1) := by decide +kernel
theorem dX6_takeBack_96 : decode cX6_takeBack 96 = .ok (.iload_n 3, 1) := by decide +kernel
theorem dX6_takeBack_97 : decode cX6_takeBack 97 = .ok (.invokevirtual 137, 3) := by decide +kernel
theorem dX6_takeBack_100 : decode cX6_takeBack 100 = .ok (.goto 19, 3) := by decide +kernel
theorem dX6_takeBack_103 : decode cX6_takeBack 103 = .ok (.aload_n 0, 1) := by decide +kernel
theorem dX6_takeBack_104 : decode cX6_takeBack 104 = .ok (.getfield 19, 3) := by decide +kernel
theorem dX6_takeBack_107 : decode cX6_takeBack 107 = .ok (.iload_n 2, 1) := by decide +kernel
theorem dX6_takeBack_108 : decode cX6_takeBack 108 = .ok (.iload_n 3, 1) := by decide +kernel
theorem dX6_takeBack_109 : decode cX6_takeBack 109 = .ok (.iload 4, 2) := by decide +kernel
theorem dX6_takeBack_111 : decode cX6_takeBack 111 = .ok (.iload 5, 2) := by decide +kernel
theorem dX6_takeBack_113 : decode cX6_takeBack 113 = .ok (.invokevirtual 119, 3) := by decide +kernel
theorem dX6_takeBack_116 : decode cX6_takeBack 116 = .ok (.goto 3, 3) := by decide +kernel
theorem dX6_takeBack_119 : decode cX6_takeBack 119 = .ok (.return_, 1) := by decide +kernel
theorem dX6_linesCross_0 : decode cX6_linesCross 0 = .ok (.aload_n 0, 1) := by decide +kernel
theorem dX6_linesCross_1 : decode cX6_linesCross 1 = .ok (.getfield 19, 3) := by decide +kernel
theorem dX6_linesCross_4 : decode cX6_linesCross 4 = .ok (.getfield 131, 3) := by decide +kernel
theorem dX6_linesCross_7 : decode cX6_linesCross 7 = .ok (.iload_n 1, 1) := by decide +kernel
theorem dX6_linesCross_8 : decode cX6_linesCross 8 = .ok (.iaload, 1) := by decide +kernel
theorem dX6_linesCross_9 : decode cX6_linesCross 9 = .ok (.istore_n 3, 1) := by decide +kernel
theorem dX6_linesCross_10 : decode cX6_linesCross 10 = .ok (.aload_n 0, 1) := by decide +kernel
theorem dX6_linesCross_11 : decode cX6_linesCross 11 = .ok (.getfield 19, 3) := by decide +kernel
theorem dX6_linesCross_14 : decode cX6_linesCross 14 = .ok (.getfield 134, 3) := by decide +kernel
theorem dX6_linesCross_17 : decode cX6_linesCross 17 = .ok (.iload_n 1, 1) := by decide +kernel
theorem dX6_linesCross_18 : decode cX6_linesCross 18 = .ok (.iaload, 1) := by decide +kernel
theorem dX6_linesCross_19 : decode cX6_linesCross 19 = .ok (.istore 4, 2) := by decide +kernel
theorem dX6_linesCross_21 : decode cX6_linesCross 21 = .ok (.aload_n 0, 1) := by decide +kernel
theorem dX6_linesCross_22 : decode cX6_linesCross 22 = .ok (.getfield 19, 3) := by decide +kernel
theorem dX6_linesCross_25 : decode cX6_linesCross 25 = .ok (.getfield 131, 3) := by decide +kernel
theorem dX6_linesCross_28 : decode cX6_linesCross 28 = .ok (.iload_n 2, 1) := by decide +kernel
theorem dX6_linesCross_29 : decode cX6_linesCross 29 = .ok (.iaload, 1) := by decide +kernel
theorem dX6_linesCross_30 : decode cX6_linesCross 30 = .ok (.istore 5, 2) := by decide +kernel
theorem dX6_linesCross_32 : decode cX6_linesCross 32 = .ok (.aload_n 0, 1) := by decide +kernel
theorem dX6_linesCross_33 : decode cX6_linesCross 33 = .ok (.getfield 19, 3) := by decide +kernel
theorem dX6_linesCross_36 : decode cX6_linesCross 36 = .ok (.getfield 134, 3) := by decide +kernel
theorem dX6_linesCross_39 : decode cX6_linesCross 39 = .ok (.iload_n 2, 1) := by decide +kernel
theorem dX6_linesCross_40 : decode cX6_linesCross 40 = .ok (.iaload, 1) := by decide +kernel
theorem dX6_linesCross_41 : decode cX6_linesCross 41 = .ok (.istore 6, 2) := by decide +kernel
theorem dX6_linesCross_43 : decode cX6_linesCross 43 = .ok (.iload_n 3, 1) := by decide +kernel
theorem dX6_linesCross_44 : decode cX6_linesCross 44 = .ok (.iload 5, 2) := by decide +kernel
theorem dX6_linesCross_46 : decode cX6_linesCross 46 = .ok (.if_icmp .eq 23, 3) := by decide +kernel
theorem dX6_linesCross_49 : decode cX6_linesCross 49 = .ok (.iload_n 3, 1) := by decide +kernel
theorem dX6_linesCross_50 : decode cX6_linesCross 50 = .ok (.iload 6, 2) := by decide +kernel
theorem dX6_linesCross_52 : decode cX6_linesCross 52 = .ok (.if_icmp .eq 17, 3) := by decide +kernel
theorem dX6_linesCross_55 : decode cX6_linesCross 55 = .ok (.iload 4, 2) := by decide +kernel
theorem dX6_linesCross_57 : decode cX6_linesCross 57 = .ok (.iload 5, 2) := by decide +kernel
theorem dX6_linesCross_59 : decode cX6_linesCross 59 = .ok (.if_icmp .eq 10, 3) := by decide +kernel
theorem dX6_linesCross_62 : decode cX6_linesCross 62 = .ok (.iload 4, 2) := by decide +kernel
theorem dX6_linesCross_64 : decode cX6_linesCross 64 = .ok (.iload 6, 2) := by decide +kernel
theorem dX6_linesCross_66 : decode cX6_linesCross 66 = .ok (.if_icmp .ne 7, 3) := by decide +kernel
theorem dX6_linesCross_69 : decode cX6_linesCross 69 = .ok (.iconst 1, 1) := by decide +kernel
theorem dX6_linesCross_70 : decode cX6_linesCross 70 = .ok (.goto 4, 3) := by decide +kernel
theorem dX6_linesCross_73 : decode cX6_linesCross 73 = .ok (.iconst 0, 1) := by decide +kernel
theorem dX6_linesCross_74 : decode cX6_linesCross 74 = .ok (.istore 7, 2) := by decide +kernel
theorem dX6_linesCross_76 : decode cX6_linesCross 76 = .ok (.iload 7, 2) := by decide +kernel
theorem dX6_linesCross_78 : decode cX6_linesCross 78 = .ok (.ifCond .ne 24, 3) := by decide +kernel
theorem dX6_linesCross_81 : decode cX6_linesCross 81 = .ok (.aload_n 0, 1) := by decide +kernel
theorem dX6_linesCross_82 : decode cX6_linesCross 82 = .ok (.getfield 12, 3) := by decide +kernel
theorem dX6_linesCross_85 : decode cX6_linesCross 85 = .ok (.iload_n 3, 1) := by decide +kernel
theorem dX6_linesCross_86 : decode cX6_linesCross 86 = .ok (.iload 4, 2) := by decide +kernel
theorem dX6_linesCross_88 : decode cX6_linesCross 88 = .ok (.iload 5, 2) := by decide +kernel
theorem dX6_linesCross_90 : decode cX6_linesCross 90 = .ok (.iload 6, 2) := by decide +kernel
theorem dX6_linesCross_92 : decode cX6_linesCross 92 = .ok (.invokevirtual 250, 3) := by decide +kernel
theorem dX6_linesCross_95 : decode cX6_linesCross 95 = .ok (.ifCond .eq 7, 3) := by decide +kernel
theorem dX6_linesCross_98 : decode cX6_linesCross 98 = .ok (.iconst 1, 1) := by decide +kernel
theorem dX6_linesCross_99 : decode cX6_linesCross 99 = .ok (.goto 4, 3) := by decide +kernel
theorem dX6_linesCross_102 : decode cX6_linesCross 102 = .ok (.iconst 0, 1) := by decide +kernel
theorem dX6_linesCross_103 : decode cX6_linesCross 103 = .ok (.ireturn, 1) := by decide +kernel
theorem dX6_skyTurn_0 : decode cX6_skyTurn 0 = .ok (.bipush 15, 2) := by decide +kernel
theorem dX6_skyTurn_2 : decode cX6_skyTurn 2 = .ok (.iload_n 1, 1) := by decide +kernel
theorem dX6_skyTurn_3 : decode cX6_skyTurn 3 = .ok (.imul, 1) := by decide +kernel
theorem dX6_skyTurn_4 : decode cX6_skyTurn 4 = .ok (.iload_n 0, 1) := by decide +kernel
theorem dX6_skyTurn_5 : decode cX6_skyTurn 5 = .ok (.iadd, 1) := by decide +kernel
theorem dX6_skyTurn_6 : decode cX6_skyTurn 6 = .ok (.ireturn, 1) := by decide +kernel
theorem dX6_figureIsUp_0 : decode cX6_figureIsUp 0 = .ok (.aload_n 0, 1) := by decide +kernel
theorem dX6_figureIsUp_1 : decode cX6_figureIsUp 1 = .ok (.iload_n 1, 1) := by decide +kernel
theorem dX6_figureIsUp_2 : decode cX6_figureIsUp 2 = .ok (.iload_n 2, 1) := by decide +kernel
theorem dX6_figureIsUp_3 : decode cX6_figureIsUp 3 = .ok (.iload_n 3, 1) := by decide +kernel
theorem dX6_figureIsUp_4 : decode cX6_figureIsUp 4 = .ok (.invokevirtual 198, 3) := by decide +kernel
theorem dX6_figureIsUp_7 : decode cX6_figureIsUp 7 = .ok (.ifCond .le 7, 3) := by decide +kernel
theorem dX6_figureIsUp_10 : decode cX6_figureIsUp 10 = .ok (.iconst 1, 1) := by decide +kernel
theorem dX6_figureIsUp_11 : decode cX6_figureIsUp 11 = .ok (.goto 4, 3) := by decide +kernel
theorem dX6_figureIsUp_14 : decode cX6_figureIsUp 14 = .ok (.iconst 0, 1) := by decide +kernel
theorem dX6_figureIsUp_15 : decode cX6_figureIsUp 15 = .ok (.ireturn, 1) := by decide +kernel
theorem dX6_lowestHeight_0 : decode cX6_lowestHeight 0 = .ok (.aload_n 0, 1) := by decide +kernel
theorem dX6_lowestHeight_1 : decode cX6_lowestHeight 1 = .ok (.getfield 19, 3) := by decide +kernel
theorem dX6_lowestHeight_4 : decode cX6_lowestHeight 4 = .ok (.getfield 102, 3) := by decide +kernel
theorem dX6_lowestHeight_7 : decode cX6_lowestHeight 7 = .ok (.iload_n 1, 1) := by decide +kernel
theorem dX6_lowestHeight_8 : decode cX6_lowestHeight 8 = .ok (.iaload, 1) := by decide +kernel
theorem dX6_lowestHeight_9 : decode cX6_lowestHeight 9 = .ok (.istore 4, 2) := by decide +kernel
theorem dX6_lowestHeight_11 : decode cX6_lowestHeight 11 = .ok (.iload 4, 2) := by decide +kernel
theorem dX6_lowestHeight_13 : decode cX6_lowestHeight 13 = .ok (.ifCond .ne 7, 3) := by decide +kernel
theorem dX6_lowestHeight_16 : decode cX6_lowestHeight 16 = .ok (.iconst 0, 1) := by decide +kernel
theorem dX6_lowestHeight_17 : decode cX6_lowestHeight 17 = .ok (.goto 6, 3) := by decide +kernel
theorem dX6_lowestHeight_20 : decode cX6_lowestHeight 20 = .ok (.sipush 1000, 3) := by decide +kernel
theorem dX6_lowestHeight_23 : decode cX6_lowestHeight 23 = .ok (.istore 5, 2) := by decide +kernel
theorem dX6_lowestHeight_25 : decode cX6_lowestHeight 25 = .ok (.iconst 0, 1) := by decide +kernel
theorem dX6_lowestHeight_26 : decode cX6_lowestHeight 26 = .ok (.istore 6, 2) := by decide +kernel
theorem dX6_lowestHeight_28 : decode cX6_lowestHeight 28 = .ok (.iload 6, 2) := by decide +kernel
theorem dX6_lowestHeight_30 : decode cX6_lowestHeight 30 = .ok (.iload 4, 2) := by decide +kernel
theorem dX6_lowestHeight_32 : decode cX6_lowestHeight 32 = .ok (.if_icmp .ge 69, 3) := by decide +kernel
theorem dX6_lowestHeight_35 : decode cX6_lowestHeight 35 = .ok (.iload_n 1, 1) := by decide +kernel
theorem dX6_lowestHeight_36 : decode cX6_lowestHeight 36 = .ok (.iload 6, 2) := by decide +kernel
theorem dX6_lowestHeight_38 : decode cX6_lowestHeight 38 = .ok (.invokestatic 128, 3) := by decide +kernel
theorem dX6_lowestHeight_41 : decode cX6_lowestHeight 41 = .ok (.istore 7, 2) := by decide +kernel
theorem dX6_lowestHeight_43 : decode cX6_lowestHeight 43 = .ok (.iload 5, 2) := by decide +kernel
theorem dX6_lowestHeight_45 : decode cX6_lowestHeight 45 = .ok (.aload_n 0, 1) := by decide +kernel
theorem dX6_lowestHeight_46 : decode cX6_lowestHeight 46 = .ok (.getfield 12, 3) := by decide +kernel
theorem dX6_lowestHeight_49 : decode cX6_lowestHeight 49 = .ok (.aload_n 0, 1) := by decide +kernel
theorem dX6_lowestHeight_50 : decode cX6_lowestHeight 50 = .ok (.getfield 19, 3) := by decide +kernel
theorem dX6_lowestHeight_53 : decode cX6_lowestHeight 53 = .ok (.getfield 131, 3) := by decide +kernel
theorem dX6_lowestHeight_56 : decode cX6_lowestHeight 56 = .ok (.iload 7, 2) := by decide +kernel
theorem dX6_lowestHeight_58 : decode cX6_lowestHeight 58 = .ok (.iaload, 1) := by decide +kernel
theorem dX6_lowestHeight_59 : decode cX6_lowestHeight 59 = .ok (.iload_n 2, 1) := by decide +kernel
theorem dX6_lowestHeight_60 : decode cX6_lowestHeight 60 = .ok (.iload_n 3, 1) := by decide +kernel
theorem dX6_lowestHeight_61 : decode cX6_lowestHeight 61 = .ok (.invokevirtual 188, 3) := by decide +kernel
theorem dX6_lowestHeight_64 : decode cX6_lowestHeight 64 = .ok (.invokestatic 254, 3) := by decide +kernel
theorem dX6_lowestHeight_67 : decode cX6_lowestHeight 67 = .ok (.istore 5, 2) := by decide +kernel
theorem dX6_lowestHeight_69 : decode cX6_lowestHeight 69 = .ok (.iload 5, 2) := by decide +kernel
theorem dX6_lowestHeight_71 : decode cX6_lowestHeight 71 = .ok (.aload_n 0, 1) := by decide +kernel
theorem dX6_lowestHeight_72 : decode cX6_lowestHeight 72 = .ok (.getfield 12, 3) := by decide +kernel
theorem dX6_lowestHeight_75 : decode cX6_lowestHeight 75 = .ok (.aload_n 0, 1) := by decide +kernel
theorem dX6_lowestHeight_76 : decode cX6_lowestHeight 76 = .ok (.getfield 19, 3) := by decide +kernel
theorem dX6_lowestHeight_79 : decode cX6_lowestHeight 79 = .ok (.getfield 134, 3) := by decide +kernel
theorem dX6_lowestHeight_82 : decode cX6_lowestHeight 82 = .ok (.iload 7, 2) := by decide +kernel
theorem dX6_lowestHeight_84 : decode cX6_lowestHeight 84 = .ok (.iaload, 1) := by decide +kernel
theorem dX6_lowestHeight_85 : decode cX6_lowestHeight 85 = .ok (.iload_n 2, 1) := by decide +kernel
theorem dX6_lowestHeight_86 : decode cX6_lowestHeight 86 = .ok (.iload_n 3, 1) := by decide +kernel
theorem dX6_lowestHeight_87 : decode cX6_lowestHeight 87 = .ok (.invokevirtual 188, 3) := by decide +kernel
theorem dX6_lowestHeight_90 : decode cX6_lowestHeight 90 = .ok (.invokestatic 254, 3) := by decide +kernel
theorem dX6_lowestHeight_93 : decode cX6_lowestHeight 93 = .ok (.istore 5, 2) := by decide +kernel
theorem dX6_lowestHeight_95 : decode cX6_lowestHeight 95 = .ok (.iinc 6 1, 3) := by decide +kernel
theorem dX6_lowestHeight_98 : decode cX6_lowestHeight 98 = .ok (.goto (-70), 3) := by decide +kernel
theorem dX6_lowestHeight_101 : decode cX6_lowestHeight 101 = .ok (.iload 5, 2) := by decide +kernel
theorem dX6_lowestHeight_103 : decode cX6_lowestHeight 103 = .ok (.ireturn, 1) := by decide +kernel
theorem dX6_hoursOfStar_0 : decode cX6_hoursOfStar 0 = .ok (.iconst 0, 1) := by decide +kernel
theorem dX6_hoursOfStar_1 : decode cX6_hoursOfStar 1 = .ok (.istore 4, 2) := by decide +kernel
theorem dX6_hoursOfStar_3 : decode cX6_hoursOfStar 3 = .ok (.iconst 0, 1) := by decide +kernel
theorem dX6_hoursOfStar_4 : decode cX6_hoursOfStar 4 = .ok (.istore 5, 2) := by decide +kernel
theorem dX6_hoursOfStar_6 : decode cX6_hoursOfStar 6 = .ok (.iload 5, 2) := by decide +kernel
theorem dX6_hoursOfStar_8 : decode cX6_hoursOfStar 8 = .ok (.bipush 24, 2) := by decide +kernel
theorem dX6_hoursOfStar_10 : decode cX6_hoursOfStar 10 = .ok (.if_icmp .ge 36, 3) := by decide +kernel
theorem dX6_hoursOfStar_13 : decode cX6_hoursOfStar 13 = .ok (.aload_n 0, 1) := by decide +kernel
theorem dX6_hoursOfStar_14 : decode cX6_hoursOfStar 14 = .ok (.getfield 12, 3) := by decide +kernel
theorem dX6_hoursOfStar_17 : decode cX6_hoursOfStar 17 = .ok (.iload_n 1, 1) := by decide +kernel
theorem dX6_hoursOfStar_18 : decode cX6_hoursOfStar 18 = .ok (.iload_n 2, 1) := by decide +kernel
theorem dX6_hoursOfStar_19 : decode cX6_hoursOfStar 19 = .ok (.iload_n 3, 1) := by decide +kernel
theorem dX6_hoursOfStar_20 : decode cX6_hoursOfStar 20 = .ok (.iload 5, 2) := by decide +kernel
theorem dX6_hoursOfStar_22 : decode cX6_hoursOfStar 22 = .ok (.invokestatic 185, 3) := by decide +kernel
theorem dX6_hoursOfStar_25 : decode cX6_hoursOfStar 25 = .ok (.invokevirtual 188, 3) := by decide +kernel
theorem dX6_hoursOfStar_28 : decode cX6_hoursOfStar 28 = .ok (.ifCond .le 12, 3) := by decide +kernel
theorem dX6_hoursOfStar_31 : decode cX6_hoursOfStar 31 = .ok (.iload 4, 2) := by decide +kernel
theorem dX6_hoursOfStar_33 : decode cX6_hoursOfStar 33 = .ok (.iconst 1, 1) := by decide +kernel
theorem dX6_hoursOfStar_34 : decode cX6_hoursOfStar 34 = .ok (.iload 5, 2) := by decide +kernel
theorem dX6_hoursOfStar_36 : decode cX6_hoursOfStar 36 = .ok (.ishl, 1) := by decide +kernel
theorem dX6_hoursOfStar_37 : decode cX6_hoursOfStar 37 = .ok (.ior, 1) := by decide +kernel
theorem dX6_hoursOfStar_38 : decode cX6_hoursOfStar 38 = .ok (.istore 4, 2) := by decide +kernel
theorem dX6_hoursOfStar_40 : decode cX6_hoursOfStar 40 = .ok (.iinc 5 1, 3) := by decide +kernel
theorem dX6_hoursOfStar_43 : decode cX6_hoursOfStar 43 = .ok (.goto (-37), 3) := by decide +kernel
theorem dX6_hoursOfStar_46 : decode cX6_hoursOfStar 46 = .ok (.iload 4, 2) := by decide +kernel
theorem dX6_hoursOfStar_48 : decode cX6_hoursOfStar 48 = .ok (.ireturn, 1) := by decide +kernel
theorem dX6_showIsWrong_0 : decode cX6_showIsWrong 0 = .ok (.aload_n 0, 1) := by decide +kernel
theorem dX6_showIsWrong_1 : decode cX6_showIsWrong 1 = .ok (.getfield 33, 3) := by decide +kernel
theorem dX6_showIsWrong_4 : decode cX6_showIsWrong 4 = .ok (.getfield 259, 3) := by decide +kernel
theorem dX6_showIsWrong_7 : decode cX6_showIsWrong 7 = .ok (.iload_n 1, 1) := by decide +kernel
theorem dX6_showIsWrong_8 : decode cX6_showIsWrong 8 = .ok (.iaload, 1) := by decide +kernel
theorem dX6_showIsWrong_9 : decode cX6_showIsWrong 9 = .ok (.istore_n 2, 1) := by decide +kernel
theorem dX6_showIsWrong_10 : decode cX6_showIsWrong 10 = .ok (.aload_n 0, 1) := by decide +kernel
theorem dX6_showIsWrong_11 : decode cX6_showIsWrong 11 = .ok (.getfield 26, 3) := by decide +kernel
theorem dX6_showIsWrong_14 : decode cX6_showIsWrong 14 = .ok (.getfield 173, 3) := by decide +kernel
theorem dX6_showIsWrong_17 : decode cX6_showIsWrong 17 = .ok (.iload_n 2, 1) := by decide +kernel
theorem dX6_showIsWrong_18 : decode cX6_showIsWrong 18 = .ok (.iaload, 1) := by decide +kernel
theorem dX6_showIsWrong_19 : decode cX6_showIsWrong 19 = .ok (.aload_n 0, 1) := by decide +kernel
theorem dX6_showIsWrong_20 : decode cX6_showIsWrong 20 = .ok (.getfield 33, 3) := by decide +kernel
theorem dX6_showIsWrong_23 : decode cX6_showIsWrong 23 = .ok (.getfield 262, 3) := by decide +kernel
theorem dX6_showIsWrong_26 : decode cX6_showIsWrong 26 = .ok (.iload_n 1, 1) := by decide +kernel
theorem dX6_showIsWrong_27 : decode cX6_showIsWrong 27 = .ok (.iaload, 1) := by decide +kernel
theorem dX6_showIsWrong_28 : decode cX6_showIsWrong 28 = .ok (.if_icmp .ne 29, 3) := by decide +kernel
theorem dX6_showIsWrong_31 : decode cX6_showIsWrong 31 = .ok (.aload_n 0, 1) := by decide +kernel
theorem dX6_showIsWrong_32 : decode cX6_showIsWrong 32 = .ok (.iload_n 2, 1) := by decide +kernel
theorem dX6_showIsWrong_33 : decode cX6_showIsWrong 33 = .ok (.aload_n 0, 1) := by decide +kernel
theorem dX6_showIsWrong_34 : decode cX6_showIsWrong 34 = .ok (.getfield 33, 3) := by decide +kernel
theorem dX6_showIsWrong_37 : decode cX6_showIsWrong 37 = .ok (.getfield 265, 3) := by decide +kernel
theorem dX6_showIsWrong_40 : decode cX6_showIsWrong 40 = .ok (.iload_n 1, 1) := by decide +kernel
theorem dX6_showIsWrong_41 : decode cX6_showIsWrong 41 = .ok (.iaload, 1) := by decide +kernel
theorem dX6_showIsWrong_42 : decode cX6_showIsWrong 42 = .ok (.aload_n 0, 1) := by decide +kernel
theorem dX6_showIsWrong_43 : decode cX6_showIsWrong 43 = .ok (.getfield 33, 3) := by decide +kernel
theorem dX6_showIsWrong_46 : decode cX6_showIsWrong 46 = .ok (.getfield 268, 3) := by decide +kernel
theorem dX6_showIsWrong_49 : decode cX6_showIsWrong 49 = .ok (.iload_n 1, 1) := by decide +kernel
theorem dX6_showIsWrong_50 : decode cX6_showIsWrong 50 = .ok (.iaload, 1) := by decide +kernel
theorem dX6_showIsWrong_51 : decode cX6_showIsWrong 51 = .ok (.invokevirtual 198, 3) := by decide +kernel
theorem dX6_showIsWrong_54 : decode cX6_showIsWrong 54 = .ok (.ifCond .gt 7, 3) := by decide +kernel
theorem dX6_showIsWrong_57 : decode cX6_showIsWrong 57 = .ok (.iconst 1, 1) := by decide +kernel
theorem dX6_showIsWrong_58 : decode cX6_showIsWrong 58 = .ok (.goto 4, 3) := by decide +kernel
theorem dX6_showIsWrong_61 : decode cX6_showIsWrong 61 = .ok (.iconst 0, 1) := by decide +kernel
theorem dX6_showIsWrong_62 : decode cX6_showIsWrong 62 = .ok (.ireturn, 1) := by decide +kernel
theorem dX6_countWrongShows_0 : decode cX6_countWrongShows 0 = .ok (.iconst 0, 1) := by decide +kernel
theorem dX6_countWrongShows_1 : decode cX6_countWrongShows 1 = .ok (.istore_n 1, 1) := by decide +kernel
theorem dX6_countWrongShows_2 : decode cX6_countWrongShows 2 = .ok (.iconst 0, 1) := by decide +kernel
theorem dX6_countWrongShows_3 : decode cX6_countWrongShows 3 = .ok (.istore_n 2, 1) := by decide +kernel
theorem dX6_countWrongShows_4 : decode cX6_countWrongShows 4 = .ok (.iload_n 2, 1) := by decide +kernel
theorem dX6_countWrongShows_5 : decode cX6_countWrongShows 5 = .ok (.aload_n 0, 1) := by decide +kernel
theorem dX6_countWrongShows_6 : decode cX6_countWrongShows 6 = .ok (.getfield 33, 3) := by decide +kernel
theorem dX6_countWrongShows_9 : decode cX6_countWrongShows 9 = .ok (.getfield 205, 3) := by decide +kernel
theorem dX6_countWrongShows_12 : decode cX6_countWrongShows 12 = .ok (.if_icmp .ge 20, 3) := by decide +kernel
theorem dX6_countWrongShows_15 : decode cX6_countWrongShows 15 = .ok (.aload_n 0, 1) := by decide +kernel
theorem dX6_countWrongShows_16 : decode cX6_countWrongShows 16 = .ok (.iload_n 2, 1) := by decide +kernel
theorem dX6_countWrongShows_17 : decode cX6_countWrongShows 17 = .ok (.invokevirtual 215, 3) := by decide +kernel
theorem dX6_countWrongShows_20 : decode cX6_countWrongShows 20 = .ok (.ifCond .eq 6, 3) := by decide +kernel
theorem dX6_countWrongShows_23 : decode cX6_countWrongShows 23 = .ok (.iinc 1 1, 3) := by decide +kernel
theorem dX6_countWrongShows_26 : decode cX6_countWrongShows 26 = .ok (.iinc 2 1, 3) := by decide +kernel
theorem dX6_countWrongShows_29 : decode cX6_countWrongShows 29 = .ok (.goto (-25), 3) := by decide +kernel
theorem dX6_countWrongShows_32 : decode cX6_countWrongShows 32 = .ok (.iload_n 1, 1) := by decide +kernel
theorem dX6_countWrongShows_33 : decode cX6_countWrongShows 33 = .ok (.ireturn, 1) := by decide +kernel
theorem dX7_init_0 : decode cX7_init 0 = .ok (.aload_n 0, 1) := by decide +kernel
theorem dX7_init_1 : decode cX7_init 1 = .ok (.invokespecial 1, 3) := by decide +kernel
theorem dX7_init_4 : decode cX7_init 4 = .ok (.aload_n 0, 1) := by decide +kernel
theorem dX7_init_5 : decode cX7_init 5 = .ok (.bipush 24, 2) := by decide +kernel
theorem dX7_init_7 : decode cX7_init 7 = .ok (.newarray .int, 2) := by decide +kernel
theorem dX7_init_9 : decode cX7_init 9 = .ok (.putfield 7, 3) := by decide +kernel
theorem dX7_init_12 : decode cX7_init 12 = .ok (.aload_n 0, 1) := by decide +kernel
theorem dX7_init_13 : decode cX7_init 13 = .ok (.bipush 24, 2) := by decide +kernel
theorem dX7_init_15 : decode cX7_init 15 = .ok (.newarray .int, 2) := by decide +kernel
theorem dX7_init_17 : decode cX7_init 17 = .ok (.putfield 13, 3) := by decide +kernel
theorem dX7_init_20 : decode cX7_init 20 = .ok (.aload_n 0, 1) := by decide +kernel
theorem dX7_init_21 : decode cX7_init 21 = .ok (.bipush 80, 2) := by decide +kernel
theorem dX7_init_23 : decode cX7_init 23 = .ok (.newarray .int, 2) := by decide +kernel
theorem dX7_init_25 : decode cX7_init 25 = .ok (.putfield 16, 3) := by decide +kernel
theorem dX7_init_28 : decode cX7_init 28 = .ok (.aload_n 0, 1) := by decide +kernel
theorem dX7_init_29 : decode cX7_init 29 = .ok (.bipush 80, 2) := by decide +kernel
theorem dX7_init_31 : decode cX7_init 31 = .ok (.newarray .int, 2) := by decide +kernel
theorem dX7_init_33 : decode cX7_init 33 = .ok (.putfield 19, 3) := by decide +kernel
theorem dX7_init_36 : decode cX7_init 36 = .ok (.aload_n 0, 1) := by decide +kernel
theorem dX7_init_37 : decode cX7_init 37 = .ok (.bipush 8, 2) := by decide +kernel
theorem dX7_init_39 : decode cX7_init 39 = .ok (.newarray .int, 2) := by decide +kernel
theorem dX7_init_41 : decode cX7_init 41 = .ok (.putfield 22, 3) := by decide +kernel
theorem dX7_init_44 : decode cX7_init 44 = .ok (.aload_n 0, 1) := by decide +kernel
theorem dX7_init_45 : decode cX7_init 45 = .ok (.bipush 48, 2) := by decide +kernel
theorem dX7_init_47 : decode cX7_init 47 = .ok (.newarray .int, 2) := by decide +kernel
theorem dX7_init_49 : decode cX7_init 49 = .ok (.putfield 25, 3) := by decide +kernel
theorem dX7_init_52 : decode cX7_init 52 = .ok (.aload_n 0, 1) := by decide +kernel
theorem dX7_init_53 : decode cX7_init 53 = .ok (.bipush 8, 2) := by decide +kernel
theorem dX7_init_55 : decode cX7_init 55 = .ok (.newarray .int, 2) := by decide +kernel
theorem dX7_init_57 : decode cX7_init 57 = .ok (.putfield 28, 3) := by decide +kernel
theorem dX7_init_60 : decode cX7_init 60 = .ok (.aload_n 0, 1) := by decide +kernel
theorem dX7_init_61 : decode cX7_init 61 = .ok (.bipush 60, 2) := by decide +kernel
theorem dX7_init_63 : decode cX7_init 63 = .ok (.newarray .int, 2) := by decide +kernel
theorem dX7_init_65 : decode cX7_init 65 = .ok (.putfield 31, 3) := by decide +kernel
theorem dX7_init_68 : decode cX7_init 68 = .ok (.aload_n 0, 1) := by decide +kernel
theorem dX7_init_69 : decode cX7_init 69 = .ok (.sipush 150, 3) := by decide +kernel
theorem dX7_init_72 : decode cX7_init 72 = .ok (.newarray .int, 2) := by decide +kernel
theorem dX7_init_74 : decode cX7_init 74 = .ok (.putfield 34, 3) := by decide +kernel
theorem dX7_init_77 : decode cX7_init 77 = .ok (.return_, 1) := by decide +kernel
theorem dX7_thrown_0 : decode cX7_thrown 0 = .ok (.aload_n 0, 1) := by decide +kernel
theorem dX7_thrown_1 : decode cX7_thrown 1 = .ok (.getfield 37, 3) := by decide +kernel
theorem dX7_thrown_4 : decode cX7_thrown 4 = .ok (.ireturn, 1) := by decide +kernel
theorem dX7_isFine_0 : decode cX7_isFine 0 = .ok (.aload_n 0, 1) := by decide +kernel
theorem dX7_isFine_1 : decode cX7_isFine 1 = .ok (.iload_n 1, 1) := by decide +kernel
theorem dX7_isFine_2 : decode cX7_isFine 2 = .ok (.putfield 37, 3) := by decide +kernel
theorem dX7_isFine_5 : decode cX7_isFine 5 = .ok (.iload_n 1, 1) := by decide +kernel
theorem dX7_isFine_6 : decode cX7_isFine 6 = .ok (.ifCond .ne 7, 3) := by decide +kernel
theorem dX7_isFine_9 : decode cX7_isFine 9 = .ok (.iconst 1, 1) := by decide +kernel
theorem dX7_isFine_10 : decode cX7_isFine 10 = .ok (.goto 4, 3) := by decide +kernel
theorem dX7_isFine_13 : decode cX7_isFine 13 = .ok (.iconst 0, 1) := by decide +kernel
theorem dX7_isFine_14 : decode cX7_isFine 14 = .ok (.ireturn, 1) := by decide +kernel
theorem dX7_isIn_0 : decode cX7_isIn 0 = .ok (.iload_n 0, 1) := by decide +kernel
theorem dX7_isIn_1 : decode cX7_isIn 1 = .ok (.iload_n 1, 1) := by decide +kernel
theorem dX7_isIn_2 : decode cX7_isIn 2 = .ok (.if_icmp .lt 12, 3) := by decide +kernel
theorem dX7_isIn_5 : decode cX7_isIn 5 = .ok (.iload_n 0, 1) := by decide +kernel
theorem dX7_isIn_6 : decode cX7_isIn 6 = .ok (.iload_n 2, 1) := by decide +kernel
theorem dX7_isIn_7 : decode cX7_isIn 7 = .ok (.if_icmp .gt 7, 3) := by decide +kernel
theorem dX7_isIn_10 : decode cX7_isIn 10 = .ok (.iconst 1, 1) := by decide +kernel
theorem dX7_isIn_11 : decode cX7_isIn 11 = .ok (.goto 4, 3) := by decide +kernel
theorem dX7_isIn_14 : decode cX7_isIn 14 = .ok (.iconst 0, 1) := by decide +kernel
theorem dX7_isIn_15 : decode cX7_isIn 15 = .ok (.ireturn, 1) := by decide +kernel
theorem dX7_isStar_0 : decode cX7_isStar 0 = .ok (.iload_n 1, 1) := by decide +kernel
theorem dX7_isStar_1 : decode cX7_isStar 1 = .ok (.iconst 0, 1) := by decide +kernel
theorem dX7_isStar_2 : decode cX7_isStar 2 = .ok (.aload_n 0, 1) := by decide +kernel
theorem dX7_isStar_3 : decode cX7_isStar 3 = .ok (.getfield 41, 3) := by decide +kernel
theorem dX7_isStar_6 : decode cX7_isStar 6 = .ok (.iconst 1, 1) := by decide +kernel
theorem dX7_isStar_7 : decode cX7_isStar 7 = .ok (.isub, 1) := by decide +kernel
theorem dX7_isStar_8 : decode cX7_isStar 8 = .ok (.invokestatic 44, 3) := by decide +kernel
theorem dX7_isStar_11 : decode cX7_isStar 11 = .ok (.ireturn, 1) := by decide +kernel
theorem dX7_isFigure_0 : decode cX7_isFigure 0 = .ok (.iload_n 1, 1) := by decide +kernel
theorem dX7_isFigure_1 : decode cX7_isFigure 1 = .ok (.iconst 0, 1) := by decide +kernel
theorem dX7_isFigure_2 : decode cX7_isFigure 2 = .ok (.aload_n 0, 1) := by decide +kernel
theorem dX7_isFigure_3 : decode cX7_isFigure 3 = .ok (.getfield 48, 3) := by decide +kernel
theorem dX7_isFigure_6 : decode cX7_isFigure 6 = .ok (.iconst 1, 1) := by decide +kernel
theorem dX7_isFigure_7 : decode cX7_isFigure 7 = .ok (.isub, 1) := by decide +kernel
theorem dX7_isFigure_8 : decode cX7_isFigure 8 = .ok (.invokestatic 44, 3) := by decide +kernel
theorem dX7_isFigure_11 : decode cX7_isFigure 11 = .ok (.ireturn, 1) := by decide +kernel
theorem dX7_isPlace_0 : decode cX7_isPlace 0 = .ok (.iload_n 0, 1) := by decide +kernel
theorem dX7_isPlace_1 : decode cX7_isPlace 1 = .ok (.iconst 0, 1) := by decide +kernel
theorem dX7_isPlace_2 : decode cX7_isPlace 2 = .ok (.sipush 359, 3) := by decide +kernel
theorem dX7_isPlace_5 : decode cX7_isPlace 5 = .ok (.invokestatic 44, 3) := by decide +kernel
theorem dX7_isPlace_8 : decode cX7_isPlace 8 = .ok (.ifCond .eq 18, 3) := by decide +kernel
theorem dX7_isPlace_11 : decode cX7_isPlace 11 = .ok (.iload_n 1, 1) := by decide +kernel
theorem dX7_isPlace_12 : decode cX7_isPlace 12 = .ok (.bipush (-90), 2) := by decide +kernel
theorem dX7_isPlace_14 : decode cX7_isPlace 14 = .ok (.bipush 90, 2) := by decide +kernel
theorem dX7_isPlace_16 : decode cX7_isPlace 16 = .ok (.invokestatic 44, 3) := by decide +kernel
theorem dX7_isPlace_19 : decode cX7_isPlace 19 = .ok (.ifCond .eq 7, 3) := by decide +kernel
theorem dX7_isPlace_22 : decode cX7_isPlace 22 = .ok (.iconst 1, 1) := by decide +kernel
theorem dX7_isPlace_23 : decode cX7_isPlace 23 = .ok (.goto 4, 3) := by decide +kernel
theorem dX7_isPlace_26 : decode cX7_isPlace 26 = .ok (.iconst 0, 1) := by decide +kernel
theorem dX7_isPlace_27 : decode cX7_isPlace 27 = .ok (.ireturn, 1) := by decide +kernel
theorem dX7_addStar_0 : decode cX7_addStar 0 = .ok (.aload_n 0, 1) := by decide +kernel
theorem dX7_addStar_1 : decode cX7_addStar 1 = .ok (.iload_n 1, 1) := by decide +kernel
theorem dX7_addStar_2 : decode cX7_addStar 2 = .ok (.iload_n 2, 1) := by decide +kernel
theorem dX7_addStar_3 : decode cX7_addStar 3 = .ok (.invokestatic 51, 3) := by decide +kernel
theorem dX7_addStar_6 : decode cX7_addStar 6 = .ok (.ifCond .ne 7, 3) := by decide +kernel
theorem dX7_addStar_9 : decode cX7_addStar 9 = .ok (.iconst 1, 1) := by decide +kernel
theorem dX7_addStar_10 : decode cX7_addStar 10 = .ok (.goto 17, 3) := by decide +kernel
theorem dX7_addStar_13 : decode cX7_addStar 13 = .ok (.aload_n 0, 1) := by decide +kernel
theorem dX7_addStar_14 : decode cX7_addStar 14 = .ok (.getfield 41, 3) := by decide +kernel
theorem dX7_addStar_17 : decode cX7_addStar 17 = .ok (.bipush 24, 2) := by decide +kernel
theorem dX7_addStar_19 : decode cX7_addStar 19 = .ok (.if_icmp .ne 7, 3) := by decide +kernel
theorem dX7_addStar_22 : decode cX7_addStar 22 = .ok (.iconst 2, 1) := by decide +kernel
theorem dX7_addStar_23 : decode cX7_addStar 23 = .ok (.goto 4, 3) := by decide +kernel
theorem dX7_addStar_26 : decode cX7_addStar 26 = .ok (.iconst 0, 1) := by decide +kernel
theorem dX7_addStar_27 : decode cX7_addStar 27 = .ok (.invokevirtual 55, 3) := by decide +kernel
theorem dX7_addStar_30 : decode cX7_addStar 30 = .ok (.ifCond .ne 5, 3) := by decide +kernel
theorem dX7_addStar_33 : decode cX7_addStar 33 = .ok (.iconst 0, 1) := by decide +kernel
theorem dX7_addStar_34 : decode cX7_addStar 34 = .ok (.ireturn, 1) := by decide +kernel
theorem dX7_addStar_35 : decode cX7_addStar 35 = .ok (.aload_n 0, 1) := by decide +kernel
theorem dX7_addStar_36 : decode cX7_addStar 36 = .ok (.getfield 7, 3) := by decide +kernel
theorem dX7_addStar_39 : decode cX7_addStar 39 = .ok (.aload_n 0, 1) := by decide +kernel
theorem dX7_addStar_40 : decode cX7_addStar 40 = .ok (.getfield 41, 3) := by decide +kernel
theorem dX7_addStar_43 : decode cX7_addStar 43 = .ok (.iload_n 1, 1) := by decide +kernel
theorem dX7_addStar_44 : decode cX7_addStar 44 = .ok (.iastore, 1) := by decide +kernel
theorem dX7_addStar_45 : decode cX7_addStar 45 = .ok (.aload_n 0, 1) := by decide +kernel
theorem dX7_addStar_46 : decode cX7_addStar 46 = .ok (.getfield 13, 3) := by decide +kernel
theorem dX7_addStar_49 : decode cX7_addStar 49 = .ok (.aload_n 0, 1) := by decide +kernel
theorem dX7_addStar_50 : decode cX7_addStar 50 = .ok (.getfield 41, 3) := by decide +kernel
theorem dX7_addStar_53 : decode cX7_addStar 53 = .ok (.iload_n 2, 1) := by decide +kernel
theorem dX7_addStar_54 : decode cX7_addStar 54 = .ok (.iastore, 1) := by decide +kernel
theorem dX7_addStar_55 : decode cX7_addStar 55 = .ok (.aload_n 0, 1) := by decide +kernel
theorem dX7_addStar_56 : decode cX7_addStar 56 = .ok (.dup, 1) := by decide +kernel
theorem dX7_addStar_57 : decode cX7_addStar 57 = .ok (.getfield 41, 3) := by decide +kernel
theorem dX7_addStar_60 : decode cX7_addStar 60 = .ok (.iconst 1, 1) := by decide +kernel
theorem dX7_addStar_61 : decode cX7_addStar 61 = .ok (.iadd, 1) := by decide +kernel
theorem dX7_addStar_62 : decode cX7_addStar 62 = .ok (.putfield 41, 3) := by decide +kernel
theorem dX7_addStar_65 : decode cX7_addStar 65 = .ok (.aload_n 0, 1) := by decide +kernel
theorem dX7_addStar_66 : decode cX7_addStar 66 = .ok (.getfield 41, 3) := by decide +kernel
theorem dX7_addStar_69 : decode cX7_addStar 69 = .ok (.iconst 1, 1) := by decide +kernel
theorem dX7_addStar_70 : decode cX7_addStar 70 = .ok (.isub, 1) := by decide +kernel
theorem dX7_addStar_71 : decode cX7_addStar 71 = .ok (.ireturn, 1) := by decide +kernel
theorem dX7_notes_0 : decode cX7_notes 0 = .ok (.aload_n 0, 1) := by decide +kernel
theorem dX7_notes_1 : decode cX7_notes 1 = .ok (.getfield 59, 3) := by decide +kernel
theorem dX7_notes_4 : decode cX7_notes 4 = .ok (.bipush 30, 2) := by decide +kernel
theorem dX7_notes_6 : decode cX7_notes 6 = .ok (.if_icmp .ne 49, 3) := by decide +kernel
theorem dX7_notes_9 : decode cX7_notes 9 = .ok (.aload_n 0, 1) := by decide +kernel
theorem dX7_notes_10 : decode cX7_notes 10 = .ok (.dup, 1) := by decide +kernel
theorem dX7_notes_11 : decode cX7_notes 11 = .ok (.getfield 59, 3) := by decide +kernel
theorem dX7_notes_14 : decode cX7_notes 14 = .ok (.iconst 1, 1) := by decide +kernel
theorem dX7_notes_15 : decode cX7_notes 15 = .ok (.isub, 1) := by decide +kernel
theorem dX7_notes_16 : decode cX7_notes 16 = .ok (.putfield 59, 3) := by decide +kernel
theorem dX7_notes_19 : decode cX7_notes 19 = .ok (.iconst 0, 1) := by decide +kernel
theorem dX7_notes_20 : decode cX7_notes 20 = .ok (.istore 6, 2) := by decide +kernel
theorem dX7_notes_22 : decode cX7_notes 22 = .ok (.iload 6, 2) := by decide +kernel
theorem dX7_notes_24 : decode cX7_notes 24 = .ok (.iconst 5, 1) := by decide +kernel
theorem dX7_notes_25 : decode cX7_notes 25 = .ok (.aload_n 0, 1) := by decide +kernel
theorem dX7_notes_26 : decode cX7_notes 26 = .ok (.getfield 59, 3) := by decide +kernel
theorem dX7_notes_29 : decode cX7_notes 29 = .ok (.imul, 1) := by decide +kernel
theorem dX7_notes_30 : decode cX7_notes 30 = .ok (.if_icmp .ge 25, 3) := by decide +kernel
theorem dX7_notes_33 : decode cX7_notes 33 = .ok (.aload_n 0, 1) := by decide +kernel
theorem dX7_notes_34 : decode cX7_notes 34 = .ok (.getfield 34, 3) := by decide +kernel
theorem dX7_notes_37 : decode cX7_notes 37 = .ok (.iload 6, 2) := by decide +kernel
theorem dX7_notes_39 : decode cX7_notes 39 = .ok (.aload_n 0, 1) := by decide +kernel
theorem dX7_notes_40 : decode cX7_notes 40 = .ok (.getfield 34, 3) := by decide +kernel
theorem dX7_notes_43 : decode cX7_notes 43 = .ok (.iload 6, 2) := by decide +kernel
theorem dX7_notes_45 : decode cX7_notes 45 = .ok (.iconst 5, 1) := by decide +kernel
theorem dX7_notes_46 : decode cX7_notes 46 = .ok (.iadd, 1) := by decide +kernel
theorem dX7_notes_47 : decode cX7_notes 47 = .ok (.iaload, 1) := by decide +kernel
theorem dX7_notes_48 : decode cX7_notes 48 = .ok (.iastore, 1) := by decide +kernel
theorem dX7_notes_49 : decode cX7_notes 49 = .ok (.iinc 6 1, 3) := by decide +kernel
theorem dX7_notes_52 : decode cX7_notes 52 = .ok (.goto (-30), 3) := by decide +kernel
theorem dX7_notes_55 : decode cX7_notes 55 = .ok (.aload_n 0, 1) := by decide +kernel
theorem dX7_notes_56 : decode cX7_notes 56 = .ok (.getfield 34, 3) := by decide +kernel
theorem dX7_notes_59 : decode cX7_notes 59 = .ok (.iconst 5, 1) := by decide +kernel
theorem dX7_notes_60 : decode cX7_notes 60 = .ok (.aload_n 0, 1) := by decide +kernel
theorem dX7_notes_61 : decode cX7_notes 61 = .ok (.getfield 59, 3) := by decide +kernel
theorem dX7_notes_64 : decode cX7_notes 64 = .ok (.imul, 1) := by decide +kernel
theorem dX7_notes_65 : decode cX7_notes 65 = .ok (.iload_n 1, 1) := by decide +kernel
theorem dX7_notes_66 : decode cX7_notes 66 = .ok (.iastore, 1) := by decide +kernel
theorem dX7_notes_67 : decode cX7_notes 67 = .ok (.aload_n 0, 1) := by decide +kernel
theorem dX7_notes_68 : decode cX7_notes 68 = .ok (.getfield 34, 3) := by decide +kernel
theorem dX7_notes_71 : decode cX7_notes 71 = .ok (.iconst 5, 1) := by decide +kernel
theorem dX7_notes_72 : decode cX7_notes 72 = .ok (.aload_n 0, 1) := by decide +kernel
theorem dX7_notes_73 : decode cX7_notes 73 = .ok (.getfield 59, 3) := by decide +kernel
theorem dX7_notes_76 : decode cX7_notes 76 = .ok (.imul, 1) := by decide +kernel
theorem dX7_notes_77 : decode cX7_notes 77 = .ok (.iconst 1, 1) := by decide +kernel
theorem dX7_notes_78 : decode cX7_notes 78 = .ok (.iadd, 1) := by decide +kernel
theorem dX7_notes_79 : decode cX7_notes 79 = .ok (.iload_n 2, 1) := by decide +kernel
theorem dX7_notes_80 : decode cX7_notes 80 = .ok (.iastore, 1) := by decide +kernel
theorem dX7_notes_81 : decode cX7_notes 81 = .ok (.aload_n 0, 1) := by decide +kernel
theorem dX7_notes_82 : decode cX7_notes 82 = .ok (.getfield 34, 3) := by decide +kernel
theorem dX7_notes_85 : decode cX7_notes 85 = .ok (.iconst 5, 1) := by decide +kernel
theorem dX7_notes_86 : decode cX7_notes 86 = .ok (.aload_n 0, 1) := by decide +kernel
theorem dX7_notes_87 : decode cX7_notes 87 = .ok (.getfield 59, 3) := by decide +kernel
theorem dX7_notes_90 : decode cX7_notes 90 = .ok (.imul, 1) := by decide +kernel
theorem dX7_notes_91 : decode cX7_notes 91 = .ok (.iconst 2, 1) := by decide +kernel
theorem dX7_notes_92 : decode cX7_notes 92 = .ok (.iadd, 1) := by decide +kernel
theorem dX7_notes_93 : decode cX7_notes 93 = .ok (.iload_n 3, 1) := by decide +kernel
theorem dX7_notes_94 : decode cX7_notes 94 = .ok (.iastore, 1) := by decide +kernel
theorem dX7_notes_95 : decode cX7_notes 95 = .ok (.aload_n 0, 1) := by decide +kernel
theorem dX7_notes_96 : decode cX7_notes 96 = .ok (.getfield 34, 3) := by decide +kernel
theorem dX7_notes_99 : decode cX7_notes 99 = .ok (.iconst 5, 1) := by decide +kernel
theorem dX7_notes_100 : decode cX7_notes 100 = .ok (.aload_n 0, 1) := by decide +kernel
theorem dX7_notes_101 : decode cX7_notes 101 = .ok (.getfield 59, 3) := by decide +kernel
theorem dX7_notes_104 : decode cX7_notes 104 = .ok (.imul, 1) := by decide +kernel
theorem dX7_notes_105 : decode cX7_notes 105 = .ok (.iconst 3, 1) := by decide +kernel
theorem dX7_notes_106 : decode cX7_notes 106 = .ok (.iadd, 1) := by decide +kernel
theorem dX7_notes_107 : decode cX7_notes 107 = .ok (.iload 4, 2) := by decide +kernel
theorem dX7_notes_109 : decode cX7_notes 109 = .ok (.iastore, 1) := by decide +kernel
theorem dX7_notes_110 : decode cX7_notes 110 = .ok (.aload_n 0, 1) := by decide +kernel
theorem dX7_notes_111 : decode cX7_notes 111 = .ok (.getfield 34, 3) := by decide +kernel
theorem dX7_notes_114 : decode cX7_notes 114 = .ok (.iconst 5, 1) := by decide +kernel
theorem dX7_notes_115 : decode cX7_notes 115 = .ok (.aload_n 0, 1) := by decide +kernel
theorem dX7_notes_116 : decode cX7_notes 116 = .ok (.getfield 59, 3) := by decide +kernel
theorem dX7_notes_119 : decode cX7_notes 119 = .ok (.imul, 1) := by decide +kernel
theorem dX7_notes_120 : decode cX7_notes 120 = .ok (.iconst 4, 1) := by decide +kernel
theorem dX7_notes_121 : decode cX7_notes 121 = .ok (.iadd, 1) := by decide +kernel
theorem dX7_notes_122 : decode cX7_notes 122 = .ok (.iload 5, 2) := by decide +kernel
theorem dX7_notes_124 : decode cX7_notes 124 = .ok (.iastore, 1) := by decide +kernel
theorem dX7_notes_125 : decode cX7_notes 125 = .ok (.aload_n 0, 1) := by decide +kernel
theorem dX7_notes_126 : decode cX7_notes 126 = .ok (.dup, 1) := by decide +kernel
theorem dX7_notes_127 : decode cX7_notes 127 = .ok (.getfield 59, 3) := by decide +kernel
theorem dX7_notes_130 : decode cX7_notes 130 = .ok (.iconst 1, 1) := by decide +kernel
theorem dX7_notes_131 : decode cX7_notes 131 = .ok (.iadd, 1) := by decide +kernel
theorem dX7_notes_132 : decode cX7_notes 132 = .ok (.putfield 59, 3) := by decide +kernel
theorem dX7_notes_135 : decode cX7_notes 135 = .ok (.return_, 1) := by decide +kernel
theorem dX7_correct_0 : decode cX7_correct 0 = .ok (.aload_n 0, 1) := by decide +kernel
theorem dX7_correct_1 : decode cX7_correct 1 = .ok (.aload_n 0, 1) := by decide +kernel
theorem dX7_correct_2 : decode cX7_correct 2 = .ok (.iload_n 1, 1) := by decide +kernel
theorem dX7_correct_3 : decode cX7_correct 3 = .ok (.invokevirtual 62, 3) := by decide +kernel
theorem dX7_correct_6 : decode cX7_correct 6 = .ok (.ifCond .ne 7, 3) := by decide +kernel
theorem dX7_correct_9 : decode cX7_correct 9 = .ok (.iconst 1, 1) := by decide +kernel
theorem dX7_correct_10 : decode cX7_correct 10 = .ok (.goto 16, 3) := by decide +kernel
theorem dX7_correct_13 : decode cX7_correct 13 = .ok (.iload_n 2, 1) := by decide +kernel
theorem dX7_correct_14 : decode cX7_correct 14 = .ok (.iload_n 3, 1) := by decide +kernel
theorem dX7_correct_15 : decode cX7_correct 15 = .ok (.invokestatic 51, 3) := by decide +kernel
theorem dX7_correct_18 : decode cX7_correct 18 = .ok (.ifCond .ne 7, 3) := by decide +kernel
theorem dX7_correct_21 : decode cX7_correct 21 = .ok (.iconst 2, 1) := by decide +kernel
theorem dX7_correct_22 : decode cX7_correct 22 = .ok (.goto 4, 3) := by decide +kernel
theorem dX7_correct_25 : decode cX7_correct 25 = .ok (.iconst 0, 1) := by decide +kernel
theorem dX7_correct_26 : decode cX7_correct 26 = .ok (.invokevirtual 55, 3) := by decide +kernel
theorem dX7_correct_29 : decode cX7_correct 29 = .ok (.ifCond .ne 5, 3) := by decide +kernel
theorem dX7_correct_32 : decode cX7_correct 32 = .ok (.iconst 0, 1) := by decide +kernel
theorem dX7_correct_33 : decode cX7_correct 33 = .ok (.ireturn, 1) := by decide +kernel
theorem dX7_correct_34 : decode cX7_correct 34 = .ok (.aload_n 0, 1) := by decide +kernel
theorem dX7_correct_35 : decode cX7_correct 35 = .ok (.iconst 0, 1) := by decide +kernel
theorem dX7_correct_36 : decode cX7_correct 36 = .ok (.iload_n 1, 1) := by decide +kernel
theorem dX7_correct_37 : decode cX7_correct 37 = .ok (.aload_n 0, 1) := by decide +kernel
theorem dX7_correct_38 : decode cX7_correct 38 = .ok (.getfield 7, 3) := by decide +kernel
theorem dX7_correct_41 : decode cX7_correct 41 = .ok (.iload_n 1, 1) := by decide +kernel
theorem dX7_correct_42 : decode cX7_correct 42 = .ok (.iaload, 1) := by decide +kernel
theorem dX7_correct_43 : decode cX7_correct 43 = .ok (.aload_n 0, 1) := by decide +kernel
theorem dX7_correct_44 : decode cX7_correct 44 = .ok (.getfield 13, 3) := by decide +kernel
theorem dX7_correct_47 : decode cX7_correct 47 = .ok (.iload_n 1, 1) := by decide +kernel
theorem dX7_correct_48 : decode cX7_correct 48 = .ok (.iaload, 1) := by decide +kernel
theorem dX7_correct_49 : decode cX7_correct 49 = .ok (.iconst 0, 1) := by decide +kernel
theorem dX7_correct_50 : decode cX7_correct 50 = .ok (.invokevirtual 65, 3) := by decide +kernel
theorem dX7_correct_53 : decode cX7_correct 53 = .ok (.aload_n 0, 1) := by decide +kernel
theorem dX7_correct_54 : decode cX7_correct 54 = .ok (.getfield 7, 3) := by decide +kernel
theorem dX7_correct_57 : decode cX7_correct 57 = .ok (.iload_n 1, 1) := by decide +kernel
theorem dX7_correct_58 : decode cX7_correct 58 = .ok (.iload_n 2, 1) := by decide +kernel
theorem dX7_correct_59 : decode cX7_correct 59 = .ok (.iastore, 1) := by decide +kernel
theorem dX7_correct_60 : decode cX7_correct 60 = .ok (.aload_n 0, 1) := by decide +kernel
theorem dX7_correct_61 : decode cX7_correct 61 = .ok (.getfield 13, 3) := by decide +kernel
theorem dX7_correct_64 : decode cX7_correct 64 = .ok (.iload_n 1, 1) := by decide +kernel
theorem dX7_correct_65 : decode cX7_correct 65 = .ok (.iload_n 3, 1) := by decide +kernel
theorem dX7_correct_66 : decode cX7_correct 66 = .ok (.iastore, 1) := by decide +kernel
theorem dX7_correct_67 : decode cX7_correct 67 = .ok (.aload_n 0, 1) := by decide +kernel
theorem dX7_correct_68 : decode cX7_correct 68 = .ok (.invokevirtual 69, 3) := by decide +kernel
theorem dX7_correct_71 : decode cX7_correct 71 = .ok (.ireturn, 1) := by decide +kernel
theorem dX7_addFigure_0 : decode cX7_addFigure 0 = .ok (.aload_n 0, 1) := by decide +kernel
theorem dX7_addFigure_1 : decode cX7_addFigure 1 = .ok (.aload_n 0, 1) := by decide +kernel
theorem dX7_addFigure_2 : decode cX7_addFigure 2 = .ok (.getfield 48, 3) := by decide +kernel
theorem dX7_addFigure_5 : decode cX7_addFigure 5 = .ok (.bipush 8, 2) := by decide +kernel
theorem dX7_addFigure_7 : decode cX7_addFigure 7 = .ok (.if_icmp .ne 7, 3) := by decide +kernel
theorem dX7_addFigure_10 : decode cX7_addFigure 10 = .ok (.iconst 1, 1) := by decide +kernel
theorem dX7_addFigure_11 : decode cX7_addFigure 11 = .ok (.goto 4, 3) := by decide +kernel
theorem dX7_addFigure_14 : decode cX7_addFigure 14 = .ok (.iconst 0, 1) := by decide +kernel
theorem dX7_addFigure_15 : decode cX7_addFigure 15 = .ok (.invokevirtual 55, 3) := by decide +kernel
theorem dX7_addFigure_18 : decode cX7_addFigure 18 = .ok (.ifCond .ne 5, 3) := by decide +kernel
theorem dX7_addFigure_21 : decode cX7_addFigure 21 = .ok (.iconst 0, 1) := by decide +kernel
theorem dX7_addFigure_22 : decode cX7_addFigure 22 = .ok (.ireturn, 1) := by decide +kernel
theorem dX7_addFigure_23 : decode cX7_addFigure 23 = .ok (.aload_n 0, 1) := by decide +kernel
theorem dX7_addFigure_24 : decode cX7_addFigure 24 = .ok (.dup, 1) := by decide +kernel
theorem dX7_addFigure_25 : decode cX7_addFigure 25 = .ok (.getfield 48, 3) := by decide +kernel
theorem dX7_addFigure_28 : decode cX7_addFigure 28 = .ok (.iconst 1, 1) := by decide +kernel
theorem dX7_addFigure_29 : decode cX7_addFigure 29 = .ok (.iadd, 1) := by decide +kernel
theorem dX7_addFigure_30 : decode cX7_addFigure 30 = .ok (.putfield 48, 3) := by decide +kernel
theorem dX7_addFigure_33 : decode cX7_addFigure 33 = .ok (.aload_n 0, 1) := by decide +kernel
theorem dX7_addFigure_34 : decode cX7_addFigure 34 = .ok (.getfield 48, 3) := by decide +kernel
theorem dX7_addFigure_37 : decode cX7_addFigure 37 = .ok (.iconst 1, 1) := by decide +kernel
theorem dX7_addFigure_38 : decode cX7_addFigure 38 = .ok (.isub, 1) := by decide +kernel
theorem dX7_addFigure_39 : decode cX7_addFigure 39 = .ok (.ireturn, 1) := by decide +kernel
theorem dX7_isOf_0 : decode cX7_isOf 0 = .ok (.iconst 0, 1) := by decide +kernel
theorem dX7_isOf_1 : decode cX7_isOf 1 = .ok (.istore_n 3, 1) := by decide +kernel
theorem dX7_isOf_2 : decode cX7_isOf 2 = .ok (.bipush 10, 2) := by decide +kernel
theorem dX7_isOf_4 : decode cX7_isOf 4 = .ok (.iload_n 1, 1) := by decide +kernel
theorem dX7_isOf_5 : decode cX7_isOf 5 = .ok (.imul, 1) := by decide +kernel
theorem dX7_isOf_6 : decode cX7_isOf 6 = .ok (.istore 4, 2) := by decide +kernel
theorem dX7_isOf_8 : decode cX7_isOf 8 = .ok (.iload 4, 2) := by decide +kernel
theorem dX7_isOf_10 : decode cX7_isOf 10 = .ok (.bipush 10, 2) := by decide +kernel
theorem dX7_isOf_12 : decode cX7_isOf 12 = .ok (.iload_n 1, 1) := by decide +kernel
theorem dX7_isOf_13 : decode cX7_isOf 13 = .ok (.imul, 1) := by decide +kernel
theorem dX7_isOf_14 : decode cX7_isOf 14 = .ok (.aload_n 0, 1) := by decide +kernel
theorem dX7_isOf_15 : decode cX7_isOf 15 = .ok (.getfield 22, 3) := by decide +kernel
theorem dX7_isOf_18 : decode cX7_isOf 18 = .ok (.iload_n 1, 1) := by decide +kernel
theorem dX7_isOf_19 : decode cX7_isOf 19 = .ok (.iaload, 1) := by decide +kernel
theorem dX7_isOf_20 : decode cX7_isOf 20 = .ok (.iadd, 1) := by decide +kernel
theorem dX7_isOf_21 : decode cX7_isOf 21 = .ok (.if_icmp .ge 41, 3) := by decide +kernel
theorem dX7_isOf_24 : decode cX7_isOf 24 = .ok (.iload_n 3, 1) := by decide +kernel
theorem dX7_isOf_25 : decode cX7_isOf 25 = .ok (.ifCond .ne 25, 3) := by decide +kernel
theorem dX7_isOf_28 : decode cX7_isOf 28 = .ok (.aload_n 0, 1) := by decide +kernel
theorem dX7_isOf_29 : decode cX7_isOf 29 = .ok (.getfield 16, 3) := by decide +kernel
theorem dX7_isOf_32 : decode cX7_isOf 32 = .ok (.iload 4, 2) := by decide +kernel
theorem dX7_isOf_34 : decode cX7_isOf 34 = .ok (.iaload, 1) := by decide +kernel
theorem dX7_isOf_35 : decode cX7_isOf 35 = .ok (.iload_n 2, 1) := by decide +kernel
theorem dX7_isOf_36 : decode cX7_isOf 36 = .ok (.if_icmp .eq 14, 3) := by decide +kernel
theorem dX7_isOf_39 : decode cX7_isOf 39 = .ok (.aload_n 0, 1) := by decide +kernel
theorem dX7_isOf_40 : decode cX7_isOf 40 = .ok (.getfield 19, 3) := by decide +kernel
theorem dX7_isOf_43 : decode cX7_isOf 43 = .ok (.iload 4, 2) := by decide +kernel
theorem dX7_isOf_45 : decode cX7_isOf 45 = .ok (.iaload, 1) := by decide +kernel
theorem dX7_isOf_46 : decode cX7_isOf 46 = .ok (.iload_n 2, 1) := by decide +kernel
theorem dX7_isOf_47 : decode cX7_isOf 47 = .ok (.if_icmp .ne 7, 3) := by decide +kernel
theorem dX7_isOf_50 : decode cX7_isOf 50 = .ok (.iconst 1, 1) := by decide +kernel
theorem dX7_isOf_51 : decode cX7_isOf 51 = .ok (.goto 4, 3) := by decide +kernel
theorem dX7_isOf_54 : decode cX7_isOf 54 = .ok (.iconst 0, 1) := by decide +kernel
theorem dX7_isOf_55 : decode cX7_isOf 55 = .ok (.istore_n 3, 1) := by decide +kernel
theorem dX7_isOf_56 : decode cX7_isOf 56 = .ok (.iinc 4 1, 3) := by decide +kernel
theorem dX7_isOf_59 : decode cX7_isOf 59 = .ok (.goto (-51), 3) := by decide +kernel
theorem dX7_isOf_62 : decode cX7_isOf 62 = .ok (.iload_n 3, 1) := by decide +kernel
theorem dX7_isOf_63 : decode cX7_isOf 63 = .ok (.ireturn, 1) := by decide +kernel
theorem dX7_figureNow_0 : decode cX7_figureNow 0 = .ok (.iconst (-1), 1) := by decide +kernel
theorem dX7_figureNow_1 : decode cX7_figureNow 1 = .ok (.istore_n 2, 1) := by decide +kernel
theorem dX7_figureNow_2 : decode cX7_figureNow 2 = .ok (.iconst 0, 1) := by decide +kernel
theorem dX7_figureNow_3 : decode cX7_figureNow 3 = .ok (.istore_n 3, 1) := by decide +kernel
theorem dX7_figureNow_4 : decode cX7_figureNow 4 = .ok (.iload_n 3, 1) := by decide +kernel
theorem dX7_figureNow_5 : decode cX7_figureNow 5 = .ok (.aload_n 0, 1) := by decide +kernel
theorem dX7_figureNow_6 : decode cX7_figureNow 6 = .ok (.getfield 48, 3) := by decide +kernel
theorem dX7_figureNow_9 : decode cX7_figureNow 9 = .ok (.if_icmp .ge 24, 3) := by decide +kernel
theorem dX7_figureNow_12 : decode cX7_figureNow 12 = .ok (.aload_n 0, 1) := by decide +kernel
theorem dX7_figureNow_13 : decode cX7_figureNow 13 = .ok (.iload_n 3, 1) := by decide +kernel
theorem dX7_figureNow_14 : decode cX7_figureNow 14 = .ok (.iload_n 1, 1) := by decide +kernel
theorem dX7_figureNow_15 : decode cX7_figureNow 15 = .ok (.invokevirtual 73, 3) := by decide +kernel
theorem dX7_figureNow_18 : decode cX7_figureNow 18 = .ok (.ifCond .eq 7, 3) := by decide +kernel
theorem dX7_figureNow_21 : decode cX7_figureNow 21 = .ok (.iload_n 3, 1) := by decide +kernel
theorem dX7_figureNow_22 : decode cX7_figureNow 22 = .ok (.goto 4, 3) := by decide +kernel
theorem dX7_figureNow_25 : decode cX7_figureNow 25 = .ok (.iload_n 2, 1) := by decide +kernel
theorem dX7_figureNow_26 : decode cX7_figureNow 26 = .ok (.istore_n 2, 1) := by decide +kernel
theorem dX7_figureNow_27 : decode cX7_figureNow 27 = .ok (.iinc 3 1, 3) := by decide +kernel
theorem dX7_figureNow_30 : decode cX7_figureNow 30 = .ok (.goto (-26), 3) := by decide +kernel
theorem dX7_figureNow_33 : decode cX7_figureNow 33 = .ok (.iload_n 2, 1) := by decide +kernel
theorem dX7_figureNow_34 : decode cX7_figureNow 34 = .ok (.ireturn, 1) := by decide +kernel
theorem dX7_isFree_0 : decode cX7_isFree 0 = .ok (.aload_n 0, 1) := by decide +kernel
theorem dX7_isFree_1 : decode cX7_isFree 1 = .ok (.iload_n 2, 1) := by decide +kernel
theorem dX7_isFree_2 : decode cX7_isFree 2 = .ok (.invokevirtual 76, 3) := by decide +kernel
theorem dX7_isFree_5 : decode cX7_isFree 5 = .ok (.iconst (-1), 1) := by decide +kernel
theorem dX7_isFree_6 : decode cX7_isFree 6 = .ok (.if_icmp .eq 12, 3) := by decide +kernel
theorem dX7_isFree_9 : decode cX7_isFree 9 = .ok (.aload_n 0, 1) := by decide +kernel
theorem dX7_isFree_10 : decode cX7_isFree 10 = .ok (.iload_n 2, 1) := by decide +kernel
theorem dX7_isFree_11 : decode cX7_isFree 11 = .ok (.invokevirtual 76, 3) := by decide +kernel
theorem dX7_isFree_14 : decode cX7_isFree 14 = .ok (.iload_n 1, 1) := by decide +kernel
theorem dX7_isFree_15 : decode cX7_isFree 15 = .ok (.if_icmp .ne 7, 3) := by decide +kernel
theorem dX7_isFree_18 : decode cX7_isFree 18 = .ok (.iconst 1, 1) := by decide +kernel
theorem dX7_isFree_19 : decode cX7_isFree 19 = .ok (.goto 4, 3) := by decide +kernel
theorem dX7_isFree_22 : decode cX7_isFree 22 = .ok (.iconst 0, 1) := by decide +kernel
theorem dX7_isFree_23 : decode cX7_isFree 23 = .ok (.ireturn, 1) := by decide +kernel
theorem dX7_hasLine_0 : decode cX7_hasLine 0 = .ok (.iconst 0, 1) := by decide +kernel
theorem dX7_hasLine_1 : decode cX7_hasLine 1 = .ok (.istore 4, 2) := by decide +kernel
theorem dX7_hasLine_3 : decode cX7_hasLine 3 = .ok (.bipush 10, 2) := by decide +kernel
theorem dX7_hasLine_5 : decode cX7_hasLine 5 = .ok (.iload_n 1, 1) := by decide +kernel
theorem dX7_hasLine_6 : decode cX7_hasLine 6 = .ok (.imul, 1) := by decide +kernel
theorem dX7_hasLine_7 : decode cX7_hasLine 7 = .ok (.istore 5, 2) := by decide +kernel
theorem dX7_hasLine_9 : decode cX7_hasLine 9 = .ok (.iload 5, 2) := by decide +kernel
theorem dX7_hasLine_11 : decode cX7_hasLine 11 = .ok (.bipush 10, 2) := by decide +kernel
theorem dX7_hasLine_13 : decode cX7_hasLine 13 = .ok (.iload_n 1, 1) := by decide +kernel
theorem dX7_hasLine_14 : decode cX7_hasLine 14 = .ok (.imul, 1) := by decide +kernel
theorem dX7_hasLine_15 : decode cX7_hasLine 15 = .ok (.aload_n 0, 1) := by decide +kernel
theorem dX7_hasLine_16 : decode cX7_hasLine 16 = .ok (.getfield 22, 3) := by decide +kernel
theorem dX7_hasLine_19 : decode cX7_hasLine 19 = .ok (.iload_n 1, 1) := by decide +kernel
theorem dX7_hasLine_20 : decode cX7_hasLine 20 = .ok (.iaload, 1) := by decide +kernel
theorem dX7_hasLine_21 : decode cX7_hasLine 21 = .ok (.iadd, 1) := by decide +kernel
theorem dX7_hasLine_22 : decode cX7_hasLine 22 = .ok (.if_icmp .ge 65, 3) := by decide +kernel
theorem dX7_hasLine_25 : decode cX7_hasLine 25 = .ok (.iload 4, 2) := by decide +kernel
theorem dX7_hasLine_27 : decode cX7_hasLine 27 = .ok (.ifCond .ne 47, 3) := by decide +kernel
theorem dX7_hasLine_30 : decode cX7_hasLine 30 = .ok (.aload_n 0, 1) := by decide +kernel
theorem dX7_hasLine_31 : decode cX7_hasLine 31 = .ok (.getfield 16, 3) := by decide +kernel
theorem dX7_hasLine_34 : decode cX7_hasLine 34 = .ok (.iload 5, 2) := by decide +kernel
theorem dX7_hasLine_36 : decode cX7_hasLine 36 = .ok (.iaload, 1) := by decide +kernel
theorem dX7_hasLine_37 : decode cX7_hasLine 37 = .ok (.iload_n 2, 1) := by decide +kernel
theorem dX7_hasLine_38 : decode cX7_hasLine 38 = .ok (.if_icmp .ne 14, 3) := by decide +kernel
theorem dX7_hasLine_41 : decode cX7_hasLine 41 = .ok (.aload_n 0, 1) := by decide +kernel
theorem dX7_hasLine_42 : decode cX7_hasLine 42 = .ok (.getfield 19, 3) := by decide +kernel
theorem dX7_hasLine_45 : decode cX7_hasLine 45 = .ok (.iload 5, 2) := by decide +kernel
theorem dX7_hasLine_47 : decode cX7_hasLine 47 = .ok (.iaload, 1) := by decide +kernel
theorem dX7_hasLine_48 : decode cX7_hasLine 48 = .ok (.iload_n 3, 1) := by decide +kernel
theorem dX7_hasLine_49 : decode cX7_hasLine 49 = .ok (.if_icmp .eq 25, 3) := by decide +kernel
theorem dX7_hasLine_52 : decode cX7_hasLine 52 = .ok (.aload_n 0, 1) := by decide +kernel
theorem dX7_hasLine_53 : decode cX7_hasLine 53 = .ok (.getfield 16, 3) := by decide +kernel
theorem dX7_hasLine_56 : decode cX7_hasLine 56 = .ok (.iload 5, 2) := by decide +kernel
theorem dX7_hasLine_58 : decode cX7_hasLine 58 = .ok (.iaload, 1) := by decide +kernel
theorem dX7_hasLine_59 : decode cX7_hasLine 59 = .ok (.iload_n 3, 1) := by decide +kernel
theorem dX7_hasLine_60 : decode cX7_hasLine 60 = .ok (.if_icmp .ne 18, 3) := by decide +kernel
theorem dX7_hasLine_63 : decode cX7_hasLine 63 = .ok (.aload_n 0, 1) := by decide +kernel
theorem dX7_hasLine_64 : decode cX7_hasLine 64 = .ok (.getfield 19, 3) := by decide +kernel
theorem dX7_hasLine_67 : decode cX7_hasLine 67 = .ok (.iload 5, 2) := by decide +kernel
theorem dX7_hasLine_69 : decode cX7_hasLine 69 = .ok (.iaload, 1) := by decide +kernel
theorem dX7_hasLine_70 : decode cX7_hasLine 70 = .ok (.iload_n 2, 1) := by decide +kernel
theorem dX7_hasLine_71 : decode cX7_hasLine 71 = .ok (.if_icmp .ne 7, 3) := by decide +kernel
theorem dX7_hasLine_74 : decode cX7_hasLine 74 = .ok (.iconst 1, 1) := by decide +kernel
theorem dX7_hasLine_75 : decode cX7_hasLine 75 = .ok (.goto 4, 3) := by decide +kernel
theorem dX7_hasLine_78 : decode cX7_hasLine 78 = .ok (.iconst 0, 1) := by decide +kernel
theorem dX7_hasLine_79 : decode cX7_hasLine 79 = .ok (.istore 4, 2) := by decide +kernel
theorem dX7_hasLine_81 : decode cX7_hasLine 81 = .ok (.iinc 5 1, 3) := by decide +kernel
theorem dX7_hasLine_84 : decode cX7_hasLine 84 = .ok (.goto (-75), 3) := by decide +kernel
theorem dX7_hasLine_87 : decode cX7_hasLine 87 = .ok (.iload 4, 2) := by decide +kernel
theorem dX7_hasLine_89 : decode cX7_hasLine 89 = .ok (.ireturn, 1) := by decide +kernel
theorem dX7_puts_0 : decode cX7_puts 0 = .ok (.bipush 10, 2) := by decide +kernel
theorem dX7_puts_2 : decode cX7_puts 2 = .ok (.iload_n 1, 1) := by decide +kernel
theorem dX7_puts_3 : decode cX7_puts 3 = .ok (.imul, 1) := by decide +kernel
theorem dX7_puts_4 : decode cX7_puts 4 = .ok (.aload_n 0, 1) := by decide +kernel
theorem dX7_puts_5 : decode cX7_puts 5 = .ok (.getfield 22, 3) := by decide +kernel
theorem dX7_puts_8 : decode cX7_puts 8 = .ok (.iload_n 1, 1) := by decide +kernel
theorem dX7_puts_9 : decode cX7_puts 9 = .ok (.iaload, 1) := by decide +kernel
theorem dX7_puts_10 : decode cX7_puts 10 = .ok (.iadd, 1) := by decide +kernel
theorem dX7_puts_11 : decode cX7_puts 11 = .ok (.istore 5, 2) := by decide +kernel
theorem dX7_puts_13 : decode cX7_puts 13 = .ok (.iload 5, 2) := by decide +kernel
theorem dX7_puts_15 : decode cX7_puts 15 = .ok (.bipush 10, 2) := by decide +kernel
theorem dX7_puts_17 : decode cX7_puts 17 = .ok (.iload_n 1, 1) := by decide +kernel
theorem dX7_puts_18 : decode cX7_puts 18 = .ok (.imul, 1) := by decide +kernel
theorem dX7_puts_19 : decode cX7_puts 19 = .ok (.iload_n 2, 1) := by decide +kernel
theorem dX7_puts_20 : decode cX7_puts 20 = .ok (.iadd, 1) := by decide +kernel
theorem dX7_puts_21 : decode cX7_puts 21 = .ok (.if_icmp .le 41, 3) := by decide +kernel
theorem dX7_puts_24 : decode cX7_puts 24 = .ok (.aload_n 0, 1) := by decide +kernel
theorem dX7_puts_25 : decode cX7_puts 25 = .ok (.getfield 16, 3) := by decide +kernel
theorem dX7_puts_28 : decode cX7_puts 28 = .ok (.iload 5, 2) := by decide +kernel
theorem dX7_puts_30 : decode cX7_puts 30 = .ok (.aload_n 0, 1) := by decide +kernel
theorem dX7_puts_31 : decode cX7_puts 31 = .ok (.getfield 16, 3) := by decide +kernel
theorem dX7_puts_34 : decode cX7_puts 34 = .ok (.iload 5, 2) := by decide +kernel
theorem dX7_puts_36 : decode cX7_puts 36 = .ok (.iconst 1, 1) := by decide +kernel
theorem dX7_puts_37 : decode cX7_puts 37 = .ok (.isub, 1) := by decide +kernel
theorem dX7_puts_38 : decode cX7_puts 38 = .ok (.iaload, 1) := by decide +kernel
theorem dX7_puts_39 : decode cX7_puts 39 = .ok (.iastore, 1) := by decide +kernel
theorem dX7_puts_40 : decode cX7_puts 40 = .ok (.aload_n 0, 1) := by decide +kernel
theorem dX7_puts_41 : decode cX7_puts 41 = .ok (.getfield 19, 3) := by decide +kernel
theorem dX7_puts_44 : decode cX7_puts 44 = .ok (.iload 5, 2) := by decide +kernel
theorem dX7_puts_46 : decode cX7_puts 46 = .ok (.aload_n 0, 1) := by decide +kernel
theorem dX7_puts_47 : decode cX7_puts 47 = .ok (.getfield 19, 3) := by decide +kernel
theorem dX7_puts_50 : decode cX7_puts 50 = .ok (.iload 5, 2) := by decide +kernel
theorem dX7_puts_52 : decode cX7_puts 52 = .ok (.iconst 1, 1) := by decide +kernel
theorem dX7_puts_53 : decode cX7_puts 53 = .ok (.isub, 1) := by decide +kernel
theorem dX7_puts_54 : decode cX7_puts 54 = .ok (.iaload, 1) := by decide +kernel
theorem dX7_puts_55 : decode cX7_puts 55 = .ok (.iastore, 1) := by decide +kernel
theorem dX7_puts_56 : decode cX7_puts 56 = .ok (.iinc 5 (-1), 3) := by decide +kernel
theorem dX7_puts_59 : decode cX7_puts 59 = .ok (.goto (-46), 3) := by decide +kernel
theorem dX7_puts_62 : decode cX7_puts 62 = .ok (.aload_n 0, 1) := by decide +kernel
theorem dX7_puts_63 : decode cX7_puts 63 = .ok (.getfield 16, 3) := by decide +kernel
theorem dX7_puts_66 : decode cX7_puts 66 = .ok (.bipush 10, 2) := by decide +kernel
theorem dX7_puts_68 : decode cX7_puts 68 = .ok (.iload_n 1, 1) := by decide +kernel
theorem dX7_puts_69 : decode cX7_puts 69 = .ok (.imul, 1) := by decide +kernel
theorem dX7_puts_70 : decode cX7_puts 70 = .ok (.iload_n 2, 1) := by decide +kernel
theorem dX7_puts_71 : decode cX7_puts 71 = .ok (.iadd, 1) := by decide +kernel
theorem dX7_puts_72 : decode cX7_puts 72 = .ok (.iload_n 3, 1) := by decide +kernel
theorem dX7_puts_73 : decode cX7_puts 73 = .ok (.iastore, 1) := by decide +kernel
theorem dX7_puts_74 : decode cX7_puts 74 = .ok (.aload_n 0, 1) := by decide +kernel
theorem dX7_puts_75 : decode cX7_puts 75 = .ok (.getfield 19, 3) := by decide +kernel
theorem dX7_puts_78 : decode cX7_puts 78 = .ok (.bipush 10, 2) := by decide +kernel
theorem dX7_puts_80 : decode cX7_puts 80 = .ok (.iload_n 1, 1) := by decide +kernel
theorem dX7_puts_81 : decode cX7_puts 81 = .ok (.imul, 1) := by decide +kernel
theorem dX7_puts_82 : decode cX7_puts 82 = .ok (.iload_n 2, 1) := by decide +kernel
theorem dX7_puts_83 : decode cX7_puts 83 = .ok (.iadd, 1) := by decide +kernel
theorem dX7_puts_84 : decode cX7_puts 84 = .ok (.iload 4, 2) := by decide +kernel
theorem dX7_puts_86 : decode cX7_puts 86 = .ok (.iastore, 1) := by decide +kernel
theorem dX7_puts_87 : decode cX7_puts 87 = .ok (.aload_n 0, 1) := by decide +kernel
theorem dX7_puts_88 : decode cX7_puts 88 = .ok (.getfield 22, 3) := by decide +kernel
theorem dX7_puts_91 : decode cX7_puts 91 = .ok (.iload_n 1, 1) := by decide +kernel
theorem dX7_puts_92 : decode cX7_puts 92 = .ok (.dup2, 1) := by decide +kernel
theorem dX7_puts_93 : decode cX7_puts 93 = .ok (.iaload, 1) := by decide +kernel
theorem dX7_puts_94 : decode cX7_puts 94 = .ok (.iconst 1, 1) := by decide +kernel
theorem dX7_puts_95 : decode cX7_puts 95 = .ok (.iadd, 1) := by decide +kernel
theorem dX7_puts_96 : decode cX7_puts 96 = .ok (.iastore, 1) := by decide +kernel
theorem dX7_puts_97 : decode cX7_puts 97 = .ok (.return_, 1) := by decide +kernel
theorem dX7_takes_0 : decode cX7_takes 0 = .ok (.aload_n 0, 1) := by decide +kernel
theorem dX7_takes_1 : decode cX7_takes 1 = .ok (.getfield 22, 3) := by decide +kernel
theorem dX7_takes_4 : decode cX7_takes 4 = .ok (.iload_n 1, 1) := by decide +kernel
theorem dX7_takes_5 : decode cX7_takes 5 = .ok (.dup2, 1) := by decide +kernel
theorem dX7_takes_6 : decode cX7_takes 6 = .ok (.iaload, 1) := by decide +kernel
theorem dX7_takes_7 : decode cX7_takes 7 = .ok (.iconst 1, 1) := by decide +kernel
theorem dX7_takes_8 : decode cX7_takes 8 = .ok (.isub, 1) := by decide +kernel
theorem dX7_takes_9 : decode cX7_takes 9 = .ok (.iastore, 1) := by decide +kernel
theorem dX7_takes_10 : decode cX7_takes 10 = .ok (.bipush 10, 2) := by decide +kernel
theorem dX7_takes_12 : decode cX7_takes 12 = .ok (.iload_n 1, 1) := by decide +kernel
theorem dX7_takes_13 : decode cX7_takes 13 = .ok (.imul, 1) := by decide +kernel
theorem dX7_takes_14 : decode cX7_takes 14 = .ok (.iload_n 2, 1) := by decide +kernel
theorem dX7_takes_15 : decode cX7_takes 15 = .ok (.iadd, 1) := by decide +kernel
theorem dX7_takes_16 : decode cX7_takes 16 = .ok (.istore_n 3, 1) := by decide +kernel
theorem dX7_takes_17 : decode cX7_takes 17 = .ok (.iload_n 3, 1) := by decide +kernel
theorem dX7_takes_18 : decode cX7_takes 18 = .ok (.bipush 10, 2) := by decide +kernel
theorem dX7_takes_20 : decode cX7_takes 20 = .ok (.iload_n 1, 1) := by decide +kernel
theorem dX7_takes_21 : decode cX7_takes 21 = .ok (.imul, 1) := by decide +kernel
theorem dX7_takes_22 : decode cX7_takes 22 = .ok (.aload_n 0, 1) := by decide +kernel
theorem dX7_takes_23 : decode cX7_takes 23 = .ok (.getfield 22, 3) := by decide +kernel
theorem dX7_takes_26 : decode cX7_takes 26 = .ok (.iload_n 1, 1) := by decide +kernel
theorem dX7_takes_27 : decode cX7_takes 27 = .ok (.iaload, 1) := by decide +kernel
theorem dX7_takes_28 : decode cX7_takes 28 = .ok (.iadd, 1) := by decide +kernel
theorem dX7_takes_29 : decode cX7_takes 29 = .ok (.if_icmp .ge 37, 3) := by decide +kernel
theorem dX7_takes_32 : decode cX7_takes 32 = .ok (.aload_n 0, 1) := by decide +kernel
theorem dX7_takes_33 : decode cX7_takes 33 = .ok (.getfield 16, 3) := by decide +kernel
theorem dX7_takes_36 : decode cX7_takes 36 = .ok (.iload_n 3, 1) := by decide +kernel
theorem dX7_takes_37 : decode cX7_takes 37 = .ok (.aload_n 0, 1) := by decide +kernel
theorem dX7_takes_38 : decode cX7_takes 38 = .ok (.getfield 16, 3) := by decide +kernel
theorem dX7_takes_41 : decode cX7_takes 41 = .ok (.iload_n 3, 1) := by decide +kernel
theorem dX7_takes_42 : decode cX7_takes 42 = .ok (.iconst 1, 1) := by decide +kernel
theorem dX7_takes_43 : decode cX7_takes 43 = .ok (.iadd, 1) := by decide +kernel
theorem dX7_takes_44 : decode cX7_takes 44 = .ok (.iaload, 1) := by decide +kernel
theorem dX7_takes_45 : decode cX7_takes 45 = .ok (.iastore, 1) := by decide +kernel
theorem dX7_takes_46 : decode cX7_takes 46 = .ok (.aload_n 0, 1) := by decide +kernel
theorem dX7_takes_47 : decode cX7_takes 47 = .ok (.getfield 19, 3) := by decide +kernel
theorem dX7_takes_50 : decode cX7_takes 50 = .ok (.iload_n 3, 1) := by decide +kernel
theorem dX7_takes_51 : decode cX7_takes 51 = .ok (.aload_n 0, 1) := by decide +kernel
theorem dX7_takes_52 : decode cX7_takes 52 = .ok (.getfield 19, 3) := by decide +kernel
theorem dX7_takes_55 : decode cX7_takes 55 = .ok (.iload_n 3, 1) := by decide +kernel
theorem dX7_takes_56 : decode cX7_takes 56 = .ok (.iconst 1, 1) := by decide +kernel
theorem dX7_takes_57 : decode cX7_takes 57 = .ok (.iadd, 1) := by decide +kernel
theorem dX7_takes_58 : decode cX7_takes 58 = .ok (.iaload, 1) := by decide +kernel
theorem dX7_takes_59 : decode cX7_takes 59 = .ok (.iastore, 1) := by decide +kernel
theorem dX7_takes_60 : decode cX7_takes 60 = .ok (.iinc 3 1, 3) := by decide +kernel
theorem dX7_takes_63 : decode cX7_takes 63 = .ok (.goto (-46), 3) := by decide +kernel
theorem dX7_takes_66 : decode cX7_takes 66 = .ok (.return_, 1) := by decide +kernel
theorem dX7_draw_0 : decode cX7_draw 0 = .ok (.aload_n 0, 1) := by decide +kernel
theorem dX7_draw_1 : decode cX7_draw 1 = .ok (.iload_n 1, 1) := by decide +kernel
theorem dX7_draw_2 : decode cX7_draw 2 = .ok (.invokevirtual 80, 3) := by decide +kernel
theorem dX7_draw_5 : decode cX7_draw 5 = .ok (.ifCond .eq 23, 3) := by decide +kernel
theorem dX7_draw_8 : decode cX7_draw 8 = .ok (.aload_n 0, 1) := by decide +kernel
theorem dX7_draw_9 : decode cX7_draw 9 = .ok (.iload_n 2, 1) := by decide +kernel
theorem dX7_draw_10 : decode cX7_draw 10 = .ok (.invokevirtual 62, 3) := by decide +kernel
theorem dX7_draw_13 : decode cX7_draw 13 = .ok (.ifCond .eq 15, 3) := by decide +kernel
theorem dX7_draw_16 : decode cX7_draw 16 = .ok (.aload_n 0, 1) := by decide +kernel
theorem dX7_draw_17 : decode cX7_draw 17 = .ok (.iload_n 3, 1) := by decide +kernel
theorem dX7_draw_18 : decode cX7_draw 18 = .ok (.invokevirtual 62, 3) := by decide +kernel
theorem dX7_draw_21 : decode cX7_draw 21 = .ok (.ifCond .eq 7, 3) := by decide +kernel
theorem dX7_draw_24 : decode cX7_draw 24 = .ok (.iconst 1, 1) := by decide +kernel
theorem dX7_draw_25 : decode cX7_draw 25 = .ok (.goto 4, 3) := by decide +kernel
theorem dX7_draw_28 : decode cX7_draw 28 = .ok (.iconst 0, 1) := by decide +kernel
theorem dX7_draw_29 : decode cX7_draw 29 = .ok (.istore 4, 2) := by decide +kernel
theorem dX7_draw_31 : decode cX7_draw 31 = .ok (.iload 4, 2) := by decide +kernel
theorem dX7_draw_33 : decode cX7_draw 33 = .ok (.ifCond .eq 46, 3) := by decide +kernel
theorem dX7_draw_36 : decode cX7_draw 36 = .ok (.aload_n 0, 1) := by decide +kernel
theorem dX7_draw_37 : decode cX7_draw 37 = .ok (.getfield 22, 3) := by decide +kernel
theorem dX7_draw_40 : decode cX7_draw 40 = .ok (.iload_n 1, 1) := by decide +kernel
theorem dX7_draw_41 : decode cX7_draw 41 = .ok (.iaload, 1) := by decide +kernel
theorem dX7_draw_42 : decode cX7_draw 42 = .ok (.bipush 10, 2) := by decide +kernel
theorem dX7_draw_44 : decode cX7_draw 44 = .ok (.if_icmp .ge 35, 3) := by decide +kernel
theorem dX7_draw_47 : decode cX7_draw 47 = .ok (.aload_n 0, 1) := by decide +kernel
theorem dX7_draw_48 : decode cX7_draw 48 = .ok (.iload_n 1, 1) := by decide +kernel
theorem dX7_draw_49 : decode cX7_draw 49 = .ok (.iload_n 2, 1) := by decide +kernel
theorem dX7_draw_50 : decode cX7_draw 50 = .ok (.iload_n 3, 1) := by decide +kernel
theorem dX7_draw_51 : decode cX7_draw 51 = .ok (.invokevirtual 83, 3) := by decide +kernel
theorem dX7_draw_54 : decode cX7_draw 54 = .ok (.ifCond .ne 25, 3) := by decide +kernel
theorem dX7_draw_57 : decode cX7_draw 57 = .ok (.aload_n 0, 1) := by decide +kernel
theorem dX7_draw_58 : decode cX7_draw 58 = .ok (.iload_n 1, 1) := by decide +kernel
theorem dX7_draw_59 : decode cX7_draw 59 = .ok (.iload_n 2, 1) := by decide +kernel
theorem dX7_draw_60 : decode cX7_draw 60 = .ok (.invokevirtual 86, 3) := by decide +kernel
theorem dX7_draw_63 : decode cX7_draw 63 = .ok (.ifCond .eq 16, 3) := by decide +kernel
theorem dX7_draw_66 : decode cX7_draw 66 = .ok (.aload_n 0, 1) := by decide +kernel
theorem dX7_draw_67 : decode cX7_draw 67 = .ok (.iload_n 1, 1) := by decide +kernel
theorem dX7_draw_68 : decode cX7_draw 68 = .ok (.iload_n 3, 1) := by decide +kernel
theorem dX7_draw_69 : decode cX7_draw 69 = .ok (.invokevirtual 86, 3) := by decide +kernel
theorem dX7_draw_72 : decode cX7_draw 72 = .ok (.ifCond .eq 7, 3) := by decide +kernel
theorem dX7_draw_75 : decode cX7_draw 75 = .ok (.iconst 1, 1) := by decide +kernel
theorem dX7_draw_76 : decode cX7_draw 76 = .ok (.goto 4, 3) := by decide +kernel
theorem dX7_draw_79 : decode cX7_draw 79 = .ok (.iconst 0, 1) := by decide +kernel
theorem dX7_draw_80 : decode cX7_draw 80 = .ok (.istore 5, 2) := by decide +kernel
theorem dX7_draw_82 : decode cX7_draw 82 = .ok (.aload_n 0, 1) := by decide +kernel
theorem dX7_draw_83 : decode cX7_draw 83 = .ok (.iload 4, 2) := by decide +kernel
theorem dX7_draw_85 : decode cX7_draw 85 = .ok (.ifCond .ne 7, 3) := by decide +kernel
theorem dX7_draw_88 : decode cX7_draw 88 = .ok (.iconst 1, 1) := by decide +kernel
theorem dX7_draw_89 : decode cX7_draw 89 = .ok (.goto 22, 3) := by decide +kernel
theorem dX7_draw_92 : decode cX7_draw 92 = .ok (.iload_n 2, 1) := by decide +kernel
theorem dX7_draw_93 : decode cX7_draw 93 = .ok (.iload_n 3, 1) := by decide +kernel
theorem dX7_draw_94 : decode cX7_draw 94 = .ok (.if_icmp .ne 7, 3) := by decide +kernel
theorem dX7_draw_97 : decode cX7_draw 97 = .ok (.iconst 2, 1) := by decide +kernel
theorem dX7_draw_98 : decode cX7_draw 98 = .ok (.goto 13, 3) := by decide +kernel
theorem dX7_draw_101 : decode cX7_draw 101 = .ok (.iload 5, 2) := by decide +kernel
theorem dX7_draw_103 : decode cX7_draw 103 = .ok (.ifCond .ne 7, 3) := by decide +kernel
theorem dX7_draw_106 : decode cX7_draw 106 = .ok (.iconst 3, 1) := by decide +kernel
theorem dX7_draw_107 : decode cX7_draw 107 = .ok (.goto 4, 3) := by decide +kernel
theorem dX7_draw_110 : decode cX7_draw 110 = .ok (.iconst 0, 1) := by decide +kernel
theorem dX7_draw_111 : decode cX7_draw 111 = .ok (.invokevirtual 55, 3) := by decide +kernel
theorem dX7_draw_114 : decode cX7_draw 114 = .ok (.ifCond .ne 5, 3) := by decide +kernel
theorem dX7_draw_117 : decode cX7_draw 117 = .ok (.iconst 0, 1) := by decide +kernel
theorem dX7_draw_118 : decode cX7_draw 118 = .ok (.ireturn, 1) := by decide +kernel
theorem dX7_draw_119 : decode cX7_draw 119 = .ok (.aload_n 0, 1) := by decide +kernel
theorem dX7_draw_120 : decode cX7_draw 120 = .ok (.iload_n 1, 1) := by decide +kernel
theorem dX7_draw_121 : decode cX7_draw 121 = .ok (.aload_n 0, 1) := by decide +kernel
theorem dX7_draw_122 : decode cX7_draw 122 = .ok (.getfield 22, 3) := by decide +kernel
theorem dX7_draw_125 : decode cX7_draw 125 = .ok (.iload_n 1, 1) := by decide +kernel
theorem dX7_draw_126 : decode cX7_draw 126 = .ok (.iaload, 1) := by decide +kernel
theorem dX7_draw_127 : decode cX7_draw 127 = .ok (.iload_n 2, 1) := by decide +kernel
theorem dX7_draw_128 : decode cX7_draw 128 = .ok (.iload_n 3, 1) := by decide +kernel
theorem dX7_draw_129 : decode cX7_draw 129 = .ok (.invokevirtual 89, 3) := by decide +kernel
theorem dX7_draw_132 : decode cX7_draw 132 = .ok (.aload_n 0, 1) := by decide +kernel
theorem dX7_draw_133 : decode cX7_draw 133 = .ok (.iconst 1, 1) := by decide +kernel
theorem dX7_draw_134 : decode cX7_draw 134 = .ok (.iload_n 1, 1) := by decide +kernel
theorem dX7_draw_135 : decode cX7_draw 135 = .ok (.aload_n 0, 1) := by decide +kernel
theorem dX7_draw_136 : decode cX7_draw 136 = .ok (.getfield 22, 3) := by decide +kernel
theorem dX7_draw_139 : decode cX7_draw 139 = .ok (.iload_n 1, 1) := by decide +kernel
theorem dX7_draw_140 : decode cX7_draw 140 = .ok (.iaload, 1) := by decide +kernel
theorem dX7_draw_141 : decode cX7_draw 141 = .ok (.iconst 1, 1) := by decide +kernel
theorem dX7_draw_142 : decode cX7_draw 142 = .ok (.isub, 1) := by decide +kernel
theorem dX7_draw_143 : decode cX7_draw 143 = .ok (.iload_n 2, 1) := by decide +kernel
theorem dX7_draw_144 : decode cX7_draw 144 = .ok (.iload_n 3, 1) := by decide +kernel
theorem dX7_draw_145 : decode cX7_draw 145 = .ok (.invokevirtual 65, 3) := by decide +kernel
theorem dX7_draw_148 : decode cX7_draw 148 = .ok (.aload_n 0, 1) := by decide +kernel
theorem dX7_draw_149 : decode cX7_draw 149 = .ok (.getfield 22, 3) := by decide +kernel
theorem dX7_draw_152 : decode cX7_draw 152 = .ok (.iload_n 1, 1) := by decide +kernel
theorem dX7_draw_153 : decode cX7_draw 153 = .ok (.iaload, 1) := by decide +kernel
theorem dX7_draw_154 : decode cX7_draw 154 = .ok (.iconst 1, 1) := by decide +kernel
theorem dX7_draw_155 : decode cX7_draw 155 = .ok (.isub, 1) := by decide +kernel
theorem dX7_draw_156 : decode cX7_draw 156 = .ok (.ireturn, 1) := by decide +kernel
theorem dX7_erase_0 : decode cX7_erase 0 = .ok (.aload_n 0, 1) := by decide +kernel
theorem dX7_erase_1 : decode cX7_erase 1 = .ok (.iload_n 1, 1) := by decide +kernel
theorem dX7_erase_2 : decode cX7_erase 2 = .ok (.invokevirtual 80, 3) := by decide +kernel
theorem dX7_erase_5 : decode cX7_erase 5 = .ok (.ifCond .eq 23, 3) := by decide +kernel
theorem dX7_erase_8 : decode cX7_erase 8 = .ok (.iload_n 2, 1) := by decide +kernel
theorem dX7_erase_9 : decode cX7_erase 9 = .ok (.iconst 0, 1) := by decide +kernel
theorem dX7_erase_10 : decode cX7_erase 10 = .ok (.aload_n 0, 1) := by decide +kernel
theorem dX7_erase_11 : decode cX7_erase 11 = .ok (.getfield 22, 3) := by decide +kernel
theorem dX7_erase_14 : decode cX7_erase 14 = .ok (.iload_n 1, 1) := by decide +kernel
theorem dX7_erase_15 : decode cX7_erase 15 = .ok (.iaload, 1) := by decide +kernel
theorem dX7_erase_16 : decode cX7_erase 16 = .ok (.iconst 1, 1) := by decide +kernel
theorem dX7_erase_17 : decode cX7_erase 17 = .ok (.isub, 1) := by decide +kernel
theorem dX7_erase_18 : decode cX7_erase 18 = .ok (.invokestatic 44, 3) := by decide +kernel
theorem dX7_erase_21 : decode cX7_erase 21 = .ok (.ifCond .eq 7, 3) := by decide +kernel
theorem dX7_erase_24 : decode cX7_erase 24 = .ok (.iconst 1, 1) := by decide +kernel
theorem dX7_erase_25 : decode cX7_erase 25 = .ok (.goto 4, 3) := by decide +kernel
theorem dX7_erase_28 : decode cX7_erase 28 = .ok (.iconst 0, 1) := by decide +kernel
theorem dX7_erase_29 : decode cX7_erase 29 = .ok (.istore_n 3, 1) := by decide +kernel
theorem dX7_erase_30 : decode cX7_erase 30 = .ok (.aload_n 0, 1) := by decide +kernel
theorem dX7_erase_31 : decode cX7_erase 31 = .ok (.iload_n 3, 1) := by decide +kernel
theorem dX7_erase_32 : decode cX7_erase 32 = .ok (.ifCond .eq 7, 3) := by decide +kernel
theorem dX7_erase_35 : decode cX7_erase 35 = .ok (.iconst 0, 1) := by decide +kernel
theorem dX7_erase_36 : decode cX7_erase 36 = .ok (.goto 4, 3) := by decide +kernel
theorem dX7_erase_39 : decode cX7_erase 39 = .ok (.iconst 1, 1) := by decide +kernel
theorem dX7_erase_40 : decode cX7_erase 40 = .ok (.invokevirtual 55, 3) := by decide +kernel
theorem dX7_erase_43 : decode cX7_erase 43 = .ok (.ifCond .ne 5, 3) := by decide +kernel
theorem dX7_erase_46 : decode cX7_erase 46 = .ok (.iconst 0, 1) := by decide +kernel
theorem dX7_erase_47 : decode cX7_erase 47 = .ok (.ireturn, 1) := by decide +kernel
theorem dX7_erase_48 : decode cX7_erase 48 = .ok (.aload_n 0, 1) := by decide +kernel
theorem dX7_erase_49 : decode cX7_erase 49 = .ok (.iconst 2, 1) := by decide +kernel
theorem dX7_erase_50 : decode cX7_erase 50 = .ok (.iload_n 1, 1) := by decide +kernel
theorem dX7_erase_51 : decode cX7_erase 51 = .ok (.iload_n 2, 1) := by decide +kernel
theorem dX7_erase_52 : decode cX7_erase 52 = .ok (.aload_n 0, 1) := by decide +kernel
theorem dX7_erase_53 : decode cX7_erase 53 = .ok (.getfield 16, 3) := by decide +kernel
theorem dX7_erase_56 : decode cX7_erase 56 = .ok (.bipush 10, 2) := by decide +kernel
theorem dX7_erase_58 : decode cX7_erase 58 = .ok (.iload_n 1, 1) := by decide +kernel
theorem dX7_erase_59 : decode cX7_erase 59 = .ok (.imul, 1) := by decide +kernel
theorem dX7_erase_60 : decode cX7_erase 60 = .ok (.iload_n 2, 1) := by decide +kernel
theorem dX7_erase_61 : decode cX7_erase 61 = .ok (.iadd, 1) := by decide +kernel
theorem dX7_erase_62 : decode cX7_erase 62 = .ok (.iaload, 1) := by decide +kernel
theorem dX7_erase_63 : decode cX7_erase 63 = .ok (.aload_n 0, 1) := by decide +kernel
theorem dX7_erase_64 : decode cX7_erase 64 = .ok (.getfield 19, 3) := by decide +kernel
theorem dX7_erase_67 : decode cX7_erase 67 = .ok (.bipush 10, 2) := by decide +kernel
theorem dX7_erase_69 : decode cX7_erase 69 = .ok (.iload_n 1, 1) := by decide +kernel
theorem dX7_erase_70 : decode cX7_erase 70 = .ok (.imul, 1) := by decide +kernel
theorem dX7_erase_71 : decode cX7_erase 71 = .ok (.iload_n 2, 1) := by decide +kernel
theorem dX7_erase_72 : decode cX7_erase 72 = .ok (.iadd, 1) := by decide +kernel
theorem dX7_erase_73 : decode cX7_erase 73 = .ok (.iaload, 1) := by decide +kernel
theorem dX7_erase_74 : decode cX7_erase 74 = .ok (.invokevirtual 65, 3) := by decide +kernel
theorem dX7_erase_77 : decode cX7_erase 77 = .ok (.aload_n 0, 1) := by decide +kernel
theorem dX7_erase_78 : decode cX7_erase 78 = .ok (.iload_n 1, 1) := by decide +kernel
theorem dX7_erase_79 : decode cX7_erase 79 = .ok (.iload_n 2, 1) := by decide +kernel
theorem dX7_erase_80 : decode cX7_erase 80 = .ok (.invokevirtual 93, 3) := by decide +kernel
theorem dX7_erase_83 : decode cX7_erase 83 = .ok (.aload_n 0, 1) := by decide +kernel
theorem dX7_erase_84 : decode cX7_erase 84 = .ok (.getfield 22, 3) := by decide +kernel
theorem dX7_erase_87 : decode cX7_erase 87 = .ok (.iload_n 1, 1) := by decide +kernel
theorem dX7_erase_88 : decode cX7_erase 88 = .ok (.iaload, 1) := by decide +kernel
theorem dX7_erase_89 : decode cX7_erase 89 = .ok (.ireturn, 1) := by decide +kernel
theorem dX7_undo_0 : decode cX7_undo 0 = .ok (.aload_n 0, 1) := by decide +kernel
theorem dX7_undo_1 : decode cX7_undo 1 = .ok (.aload_n 0, 1) := by decide +kernel
theorem dX7_undo_2 : decode cX7_undo 2 = .ok (.getfield 59, 3) := by decide +kernel
theorem dX7_undo_5 : decode cX7_undo 5 = .ok (.ifCond .ne 7, 3) := by decide +kernel
theorem dX7_undo_8 : decode cX7_undo 8 = .ok (.iconst 1, 1) := by decide +kernel
theorem dX7_undo_9 : decode cX7_undo 9 = .ok (.goto 4, 3) := by decide +kernel
theorem dX7_undo_12 : decode cX7_undo 12 = .ok (.iconst 0, 1) := by decide +kernel
theorem dX7_undo_13 : decode cX7_undo 13 = .ok (.invokevirtual 55, 3) := by decide +kernel
theorem dX7_undo_16 : decode cX7_undo 16 = .ok (.ifCond .ne 5, 3) := by decide +kernel
theorem dX7_undo_19 : decode cX7_undo 19 = .ok (.iconst 0, 1) := by decide +kernel
theorem dX7_undo_20 : decode cX7_undo 20 = .ok (.ireturn, 1) := by decide +kernel
theorem dX7_undo_21 : decode cX7_undo 21 = .ok (.aload_n 0, 1) := by decide +kernel
theorem dX7_undo_22 : decode cX7_undo 22 = .ok (.dup, 1) := by decide +kernel
theorem dX7_undo_23 : decode cX7_undo 23 = .ok (.getfield 59, 3) := by decide +kernel
theorem dX7_undo_26 : decode cX7_undo 26 = .ok (.iconst 1, 1) := by decide +kernel
theorem dX7_undo_27 : decode cX7_undo 27 = .ok (.isub, 1) := by decide +kernel
theorem dX7_undo_28 : decode cX7_undo 28 = .ok (.putfield 59, 3) := by decide +kernel
theorem dX7_undo_31 : decode cX7_undo 31 = .ok (.iconst 5, 1) := by decide +kernel
theorem dX7_undo_32 : decode cX7_undo 32 = .ok (.aload_n 0, 1) := by decide +kernel
theorem dX7_undo_33 : decode cX7_undo 33 = .ok (.getfield 59, 3) := by decide +kernel
theorem dX7_undo_36 : decode cX7_undo 36 = .ok (.imul, 1) := by decide +kernel
theorem dX7_undo_37 : decode cX7_undo 37 = .ok (.istore_n 1, 1) := by decide +kernel
theorem dX7_undo_38 : decode cX7_undo 38 = .ok (.aload_n 0, 1) := by decide +kernel
theorem dX7_undo_39 : decode cX7_undo 39 = .ok (.getfield 34, 3) := by decide +kernel
theorem dX7_undo_42 : decode cX7_undo 42 = .ok (.iload_n 1, 1) := by decide +kernel
theorem dX7_undo_43 : decode cX7_undo 43 = .ok (.iconst 1, 1) := by decide +kernel
theorem dX7_undo_44 : decode cX7_undo 44 = .ok (.iadd, 1) := by decide +kernel
theorem dX7_undo_45 : decode cX7_undo 45 = .ok (.iaload, 1) := by decide +kernel
theorem dX7_undo_46 : decode cX7_undo 46 = .ok (.istore_n 2, 1) := by decide +kernel
theorem dX7_undo_47 : decode cX7_undo 47 = .ok (.aload_n 0, 1) := by decide +kernel
theorem dX7_undo_48 : decode cX7_undo 48 = .ok (.getfield 34, 3) := by decide +kernel
theorem dX7_undo_51 : decode cX7_undo 51 = .ok (.iload_n 1, 1) := by decide +kernel
theorem dX7_undo_52 : decode cX7_undo 52 = .ok (.iaload, 1) := by decide +kernel
theorem dX7_undo_53 : decode cX7_undo 53 = .ok (.ifCond .ne 34, 3) := by decide +kernel
theorem dX7_undo_56 : decode cX7_undo 56 = .ok (.aload_n 0, 1) := by decide +kernel
theorem dX7_undo_57 : decode cX7_undo 57 = .ok (.getfield 7, 3) := by decide +kernel
theorem dX7_undo_60 : decode cX7_undo 60 = .ok (.iload_n 2, 1) := by decide +kernel
theorem dX7_undo_61 : decode cX7_undo 61 = .ok (.aload_n 0, 1) := by decide +kernel
theorem dX7_undo_62 : decode cX7_undo 62 = .ok (.getfield 34, 3) := by decide +kernel
theorem dX7_undo_65 : decode cX7_undo 65 = .ok (.iload_n 1, 1) := by decide +kernel
theorem dX7_undo_66 : decode cX7_undo 66 = .ok (.iconst 2, 1) := by decide +kernel
theorem dX7_undo_67 : decode cX7_undo 67 = .ok (.iadd, 1) := by decide +kernel
theorem dX7_undo_68 : decode cX7_undo 68 = .ok (.iaload, 1) := by decide +kernel
theorem dX7_undo_69 : decode cX7_undo 69 = .ok (.iastore, 1) := by decide +kernel
theorem dX7_undo_70 : decode cX7_undo 70 = .ok (.aload_n 0, 1) := by decide +kernel
theorem dX7_undo_71 : decode cX7_undo 71 = .ok (.getfield 13, 3) := by decide +kernel
theorem dX7_undo_74 : decode cX7_undo 74 = .ok (.iload_n 2, 1) := by decide +kernel
theorem dX7_undo_75 : decode cX7_undo 75 = .ok (.aload_n 0, 1) := by decide +kernel
theorem dX7_undo_76 : decode cX7_undo 76 = .ok (.getfield 34, 3) := by decide +kernel
theorem dX7_undo_79 : decode cX7_undo 79 = .ok (.iload_n 1, 1) := by decide +kernel
theorem dX7_undo_80 : decode cX7_undo 80 = .ok (.iconst 3, 1) := by decide +kernel
theorem dX7_undo_81 : decode cX7_undo 81 = .ok (.iadd, 1) := by decide +kernel
theorem dX7_undo_82 : decode cX7_undo 82 = .ok (.iaload, 1) := by decide +kernel
theorem dX7_undo_83 : decode cX7_undo 83 = .ok (.iastore, 1) := by decide +kernel
theorem dX7_undo_84 : decode cX7_undo 84 = .ok (.goto 58, 3) := by decide +kernel
theorem dX7_undo_87 : decode cX7_undo 87 = .ok (.aload_n 0, 1) := by decide +kernel
theorem dX7_undo_88 : decode cX7_undo 88 = .ok (.getfield 34, 3) := by decide +kernel
theorem dX7_undo_91 : decode cX7_undo 91 = .ok (.iload_n 1, 1) := by decide +kernel
theorem dX7_undo_92 : decode cX7_undo 92 = .ok (.iaload, 1) := by decide +kernel
theorem dX7_undo_93 : decode cX7_undo 93 = .ok (.iconst 1, 1) := by decide +kernel
theorem dX7_undo_94 : decode cX7_undo 94 = .ok (.if_icmp .ne 19, 3) := by decide +kernel
theorem dX7_undo_97 : decode cX7_undo 97 = .ok (.aload_n 0, 1) := by decide +kernel
theorem dX7_undo_98 : decode cX7_undo 98 = .ok (.iload_n 2, 1) := by decide +kernel
theorem dX7_undo_99 : decode cX7_undo 99 = .ok (.aload_n 0, 1) := by decide +kernel
theorem dX7_undo_100 : decode cX7_undo 100 = .ok (.getfield 34, 3) := by decide +kernel
theorem dX7_undo_103 : decode cX7_undo 103 = .ok (.iload_n 1, 1) := by decide +kernel
theorem dX7_undo_104 : decode cX7_undo 104 = .ok (.iconst 2, 1) := by decide +kernel
theorem dX7_undo_105 : decode cX7_undo 105 = .ok (.iadd, 1) := by decide +kernel
theorem dX7_undo_106 : decode cX7_undo 106 = .ok (.iaload, 1) := by decide +kernel
theorem dX7_undo_107 : decode cX7_undo 107 = .ok (.invokevirtual 93, 3) := by decide +kernel
theorem dX7_undo_110 : decode cX7_undo 110 = .ok (.goto 32, 3) := by decide +kernel
theorem dX7_undo_113 : decode cX7_undo 113 = .ok (.aload_n 0, 1) := by decide +kernel
theorem dX7_undo_114 : decode cX7_undo 114 = .ok (.iload_n 2, 1) := by decide +kernel
theorem dX7_undo_115 : decode cX7_undo 115 = .ok (.aload_n 0, 1) := by decide +kernel
theorem dX7_undo_116 : decode cX7_undo 116 = .ok (.getfield 34, 3) := by decide +kernel
theorem dX7_undo_119 : decode cX7_undo 119 = .ok (.iload_n 1, 1) := by decide +kernel
theorem dX7_undo_120 : decode cX7_undo 120 = .ok (.iconst 2, 1) := by decide +kernel
theorem dX7_undo_121 : decode cX7_undo 121 = .ok (.iadd, 1) := by decide +kernel
theorem dX7_undo_122 : decode cX7_undo 122 = .ok (.iaload, 1) := by decide +kernel
theorem dX7_undo_123 : decode cX7_undo 123 = .ok (.aload_n 0, 1) := by decide +kernel
theorem dX7_undo_124 : decode cX7_undo 124 = .ok (.getfield 34, 3) := by decide +kernel
theorem dX7_undo_127 : decode cX7_undo 127 = .ok (.iload_n 1, 1) := by decide +kernel
theorem dX7_undo_128 : decode cX7_undo 128 = .ok (.iconst 3, 1) := by decide +kernel
theorem dX7_undo_129 : decode cX7_undo 129 = .ok (.iadd, 1) := by decide +kernel
theorem dX7_undo_130 : decode cX7_undo 130 = .ok (.iaload, 1) := by decide +kernel
theorem dX7_undo_131 : decode cX7_undo 131 = .ok (.aload_n 0, 1) := by decide +kernel
theorem dX7_undo_132 : decode cX7_undo 132 = .ok (.getfield 34, 3) := by decide +kernel
theorem dX7_undo_135 : decode cX7_undo 135 = .ok (.iload_n 1, 1) := by decide +kernel
theorem dX7_undo_136 : decode cX7_undo 136 = .ok (.iconst 4, 1) := by decide +kernel
theorem dX7_undo_137 : decode cX7_undo 137 = .ok (.iadd, 1) := by decide +kernel
theorem dX7_undo_138 : decode cX7_undo 138 = .ok (.iaload, 1) := by decide +kernel
theorem dX7_undo_139 : decode cX7_undo 139 = .ok (.invokevirtual 89, 3) := by decide +kernel
theorem dX7_undo_142 : decode cX7_undo 142 = .ok (.aload_n 0, 1) := by decide +kernel
theorem dX7_undo_143 : decode cX7_undo 143 = .ok (.getfield 59, 3) := by decide +kernel
theorem dX7_undo_146 : decode cX7_undo 146 = .ok (.ireturn, 1) := by decide +kernel
theorem dX7_stars_0 : decode cX7_stars 0 = .ok (.aload_n 0, 1) := by decide +kernel
theorem dX7_stars_1 : decode cX7_stars 1 = .ok (.iconst 0, 1) := by decide +kernel
theorem dX7_stars_2 : decode cX7_stars 2 = .ok (.putfield 37, 3) := by decide +kernel
theorem dX7_stars_5 : decode cX7_stars 5 = .ok (.aload_n 0, 1) := by decide +kernel
theorem dX7_stars_6 : decode cX7_stars 6 = .ok (.getfield 41, 3) := by decide +kernel
theorem dX7_stars_9 : decode cX7_stars 9 = .ok (.ireturn, 1) := by decide +kernel
theorem dX7_figures_0 : decode cX7_figures 0 = .ok (.aload_n 0, 1) := by decide +kernel
theorem dX7_figures_1 : decode cX7_figures 1 = .ok (.iconst 0, 1) := by decide +kernel
theorem dX7_figures_2 : decode cX7_figures 2 = .ok (.putfield 37, 3) := by decide +kernel
theorem dX7_figures_5 : decode cX7_figures 5 = .ok (.aload_n 0, 1) := by decide +kernel
theorem dX7_figures_6 : decode cX7_figures 6 = .ok (.getfield 48, 3) := by decide +kernel
theorem dX7_figures_9 : decode cX7_figures 9 = .ok (.ireturn, 1) := by decide +kernel
theorem dX7_lines_0 : decode cX7_lines 0 = .ok (.aload_n 0, 1) := by decide +kernel
theorem dX7_lines_1 : decode cX7_lines 1 = .ok (.aload_n 0, 1) := by decide +kernel
theorem dX7_lines_2 : decode cX7_lines 2 = .ok (.iload_n 1, 1) := by decide +kernel
theorem dX7_lines_3 : decode cX7_lines 3 = .ok (.invokevirtual 80, 3) := by decide +kernel
theorem dX7_lines_6 : decode cX7_lines 6 = .ok (.ifCond .eq 7, 3) := by decide +kernel
theorem dX7_lines_9 : decode cX7_lines 9 = .ok (.iconst 0, 1) := by decide +kernel
theorem dX7_lines_10 : decode cX7_lines 10 = .ok (.goto 4, 3) := by decide +kernel
theorem dX7_lines_13 : decode cX7_lines 13 = .ok (.iconst 1, 1) := by decide +kernel
theorem dX7_lines_14 : decode cX7_lines 14 = .ok (.invokevirtual 55, 3) := by decide +kernel
theorem dX7_lines_17 : decode cX7_lines 17 = .ok (.ifCond .eq 12, 3) := by decide +kernel
theorem dX7_lines_20 : decode cX7_lines 20 = .ok (.aload_n 0, 1) := by decide +kernel
theorem dX7_lines_21 : decode cX7_lines 21 = .ok (.getfield 22, 3) := by decide +kernel
theorem dX7_lines_24 : decode cX7_lines 24 = .ok (.iload_n 1, 1) := by decide +kernel
theorem dX7_lines_25 : decode cX7_lines 25 = .ok (.iaload, 1) := by decide +kernel
theorem dX7_lines_26 : decode cX7_lines 26 = .ok (.goto 4, 3) := by decide +kernel
theorem dX7_lines_29 : decode cX7_lines 29 = .ok (.iconst 0, 1) := by decide +kernel
theorem dX7_lines_30 : decode cX7_lines 30 = .ok (.ireturn, 1) := by decide +kernel
theorem dX7_placeOf_0 : decode cX7_placeOf 0 = .ok (.aload_n 0, 1) := by decide +kernel
theorem dX7_placeOf_1 : decode cX7_placeOf 1 = .ok (.aload_n 0, 1) := by decide +kernel
theorem dX7_placeOf_2 : decode cX7_placeOf 2 = .ok (.iload_n 1, 1) := by decide +kernel
theorem dX7_placeOf_3 : decode cX7_placeOf 3 = .ok (.invokevirtual 62, 3) := by decide +kernel
theorem dX7_placeOf_6 : decode cX7_placeOf 6 = .ok (.ifCond .eq 7, 3) := by decide +kernel
theorem dX7_placeOf_9 : decode cX7_placeOf 9 = .ok (.iconst 0, 1) := by decide +kernel
theorem dX7_placeOf_10 : decode cX7_placeOf 10 = .ok (.goto 4, 3) := by decide +kernel
theorem dX7_placeOf_13 : decode cX7_placeOf 13 = .ok (.iconst 1, 1) := by decide +kernel
theorem dX7_placeOf_14 : decode cX7_placeOf 14 = .ok (.invokevirtual 55, 3) := by decide +kernel
theorem dX7_placeOf_17 : decode cX7_placeOf 17 = .ok (.ifCond .eq 26, 3) := by decide +kernel
theorem dX7_placeOf_20 : decode cX7_placeOf 20 = .ok (.sipush 1000, 3) := by decide +kernel
theorem dX7_placeOf_23 : decode cX7_placeOf 23 = .ok (.aload_n 0, 1) := by decide +kernel
theorem dX7_placeOf_24 : decode cX7_placeOf 24 = .ok (.getfield 7, 3) := by decide +kernel
theorem dX7_placeOf_27 : decode cX7_placeOf 27 = .ok (.iload_n 1, 1) := by decide +kernel
theorem dX7_placeOf_28 : decode cX7_placeOf 28 = .ok (.iaload, 1) := by decide +kernel
theorem dX7_placeOf_29 : decode cX7_placeOf 29 = .ok (.imul, 1) := by decide +kernel
theorem dX7_placeOf_30 : decode cX7_placeOf 30 = .ok (.aload_n 0, 1) := by decide +kernel
theorem dX7_placeOf_31 : decode cX7_placeOf 31 = .ok (.getfield 13, 3) := by decide +kernel
theorem dX7_placeOf_34 : decode cX7_placeOf 34 = .ok (.iload_n 1, 1) := by decide +kernel
theorem dX7_placeOf_35 : decode cX7_placeOf 35 = .ok (.iaload, 1) := by decide +kernel
theorem dX7_placeOf_36 : decode cX7_placeOf 36 = .ok (.iadd, 1) := by decide +kernel
theorem dX7_placeOf_37 : decode cX7_placeOf 37 = .ok (.bipush 90, 2) := by decide +kernel
theorem dX7_placeOf_39 : decode cX7_placeOf 39 = .ok (.iadd, 1) := by decide +kernel
theorem dX7_placeOf_40 : decode cX7_placeOf 40 = .ok (.goto 4, 3) := by decide +kernel
theorem dX7_placeOf_43 : decode cX7_placeOf 43 = .ok (.iconst 0, 1) := by decide +kernel
theorem dX7_placeOf_44 : decode cX7_placeOf 44 = .ok (.ireturn, 1) := by decide +kernel
end
section
theorem dX7_figureOf_0 : decode cX7_figureOf 0 = .ok (.aload_n 0, 1) := by decide +kernel
theorem dX7_figureOf_1 : decode cX7_figureOf 1 = .ok (.aload_n 0, 1) := by decide +kernel
theorem dX7_figureOf_2 : decode cX7_figureOf 2 = .ok (.iload_n 1, 1) := by decide +kernel
theorem dX7_figureOf_3 : decode cX7_figureOf 3 = .ok (.invokevirtual 62, 3) := by decide +kernel
theorem dX7_figureOf_6 : decode cX7_figureOf 6 = .ok (.ifCond .eq 7, 3) := by decide +kernel
theorem dX7_figureOf_9 : decode cX7_figureOf 9 = .ok (.iconst 0, 1) := by decide +kernel
theorem dX7_figureOf_10 : decode cX7_figureOf 10 = .ok (.goto 4, 3) := by decide +kernel
theorem dX7_figureOf_13 : decode cX7_figureOf 13 = .ok (.iconst 1, 1) := by decide +kernel
theorem dX7_figureOf_14 : decode cX7_figureOf 14 = .ok (.invokevirtual 55, 3) := by decide +kernel
theorem dX7_figureOf_17 : decode cX7_figureOf 17 = .ok (.ifCond .eq 11, 3) := by decide +kernel
theorem dX7_figureOf_20 : decode cX7_figureOf 20 = .ok (.aload_n 0, 1) := by decide +kernel
theorem dX7_figureOf_21 : decode cX7_figureOf 21 = .ok (.iload_n 1, 1) := by decide +kernel
theorem dX7_figureOf_22 : decode cX7_figureOf 22 = .ok (.invokevirtual 76, 3) := by decide +kernel
theorem dX7_figureOf_25 : decode cX7_figureOf 25 = .ok (.goto 4, 3) := by decide +kernel
theorem dX7_figureOf_28 : decode cX7_figureOf 28 = .ok (.iconst 0, 1) := by decide +kernel
theorem dX7_figureOf_29 : decode cX7_figureOf 29 = .ok (.ireturn, 1) := by decide +kernel
theorem dX7_side_0 : decode cX7_side 0 = .ok (.aload_n 0, 1) := by decide +kernel
theorem dX7_side_1 : decode cX7_side 1 = .ok (.getfield 7, 3) := by decide +kernel
theorem dX7_side_4 : decode cX7_side 4 = .ok (.iload_n 2, 1) := by decide +kernel
theorem dX7_side_5 : decode cX7_side 5 = .ok (.iaload, 1) := by decide +kernel
theorem dX7_side_6 : decode cX7_side 6 = .ok (.aload_n 0, 1) := by decide +kernel
theorem dX7_side_7 : decode cX7_side 7 = .ok (.getfield 7, 3) := by decide +kernel
theorem dX7_side_10 : decode cX7_side 10 = .ok (.iload_n 1, 1) := by decide +kernel
theorem dX7_side_11 : decode cX7_side 11 = .ok (.iaload, 1) := by decide +kernel
theorem dX7_side_12 : decode cX7_side 12 = .ok (.isub, 1) := by decide +kernel
theorem dX7_side_13 : decode cX7_side 13 = .ok (.aload_n 0, 1) := by decide +kernel
theorem dX7_side_14 : decode cX7_side 14 = .ok (.getfield 13, 3) := by decide +kernel
theorem dX7_side_17 : decode cX7_side 17 = .ok (.iload_n 3, 1) := by decide +kernel
theorem dX7_side_18 : decode cX7_side 18 = .ok (.iaload, 1) := by decide +kernel
theorem dX7_side_19 : decode cX7_side 19 = .ok (.aload_n 0, 1) := by decide +kernel
theorem dX7_side_20 : decode cX7_side 20 = .ok (.getfield 13, 3) := by decide +kernel
theorem dX7_side_23 : decode cX7_side 23 = .ok (.iload_n 1, 1) := by decide +kernel
theorem dX7_side_24 : decode cX7_side 24 = .ok (.iaload, 1) := by decide +kernel
theorem dX7_side_25 : decode cX7_side 25 = .ok (.isub, 1) := by decide +kernel
theorem dX7_side_26 : decode cX7_side 26 = .ok (.imul, 1) := by decide +kernel
theorem dX7_side_27 : decode cX7_side 27 = .ok (.aload_n 0, 1) := by decide +kernel
theorem dX7_side_28 : decode cX7_side 28 = .ok (.getfield 13, 3) := by decide +kernel
theorem dX7_side_31 : decode cX7_side 31 = .ok (.iload_n 2, 1) := by decide +kernel
theorem dX7_side_32 : decode cX7_side 32 = .ok (.iaload, 1) := by decide +kernel
theorem dX7_side_33 : decode cX7_side 33 = .ok (.aload_n 0, 1) := by decide +kernel
theorem dX7_side_34 : decode cX7_side 34 = .ok (.getfield 13, 3) := by decide +kernel
theorem dX7_side_37 : decode cX7_side 37 = .ok (.iload_n 1, 1) := by decide +kernel
theorem dX7_side_38 : decode cX7_side 38 = .ok (.iaload, 1) := by decide +kernel
theorem dX7_side_39 : decode cX7_side 39 = .ok (.isub, 1) := by decide +kernel
theorem dX7_side_40 : decode cX7_side 40 = .ok (.aload_n 0, 1) := by decide +kernel
theorem dX7_side_41 : decode cX7_side 41 = .ok (.getfield 7, 3) := by decide +kernel
theorem dX7_side_44 : decode cX7_side 44 = .ok (.iload_n 3, 1) := by decide +kernel
theorem dX7_side_45 : decode cX7_side 45 = .ok (.iaload, 1) := by decide +kernel
theorem dX7_side_46 : decode cX7_side 46 = .ok (.aload_n 0, 1) := by decide +kernel
theorem dX7_side_47 : decode cX7_side 47 = .ok (.getfield 7, 3) := by decide +kernel
theorem dX7_side_50 : decode cX7_side 50 = .ok (.iload_n 1, 1) := by decide +kernel
theorem dX7_side_51 : decode cX7_side 51 = .ok (.iaload, 1) := by decide +kernel
theorem dX7_side_52 : decode cX7_side 52 = .ok (.isub, 1) := by decide +kernel
theorem dX7_side_53 : decode cX7_side 53 = .ok (.imul, 1) := by decide +kernel
theorem dX7_side_54 : decode cX7_side 54 = .ok (.isub, 1) := by decide +kernel
theorem dX7_side_55 : decode cX7_side 55 = .ok (.istore 4, 2) := by decide +kernel
theorem dX7_side_57 : decode cX7_side 57 = .ok (.iload 4, 2) := by decide +kernel
theorem dX7_side_59 : decode cX7_side 59 = .ok (.ifCond .le 7, 3) := by decide +kernel
theorem dX7_side_62 : decode cX7_side 62 = .ok (.iconst 1, 1) := by decide +kernel
theorem dX7_side_63 : decode cX7_side 63 = .ok (.goto 13, 3) := by decide +kernel
theorem dX7_side_66 : decode cX7_side 66 = .ok (.iload 4, 2) := by decide +kernel
theorem dX7_side_68 : decode cX7_side 68 = .ok (.ifCond .ge 7, 3) := by decide +kernel
theorem dX7_side_71 : decode cX7_side 71 = .ok (.iconst (-1), 1) := by decide +kernel
theorem dX7_side_72 : decode cX7_side 72 = .ok (.goto 4, 3) := by decide +kernel
theorem dX7_side_75 : decode cX7_side 75 = .ok (.iconst 0, 1) := by decide +kernel
theorem dX7_side_76 : decode cX7_side 76 = .ok (.ireturn, 1) := by decide +kernel
theorem dX7_meet_0 : decode cX7_meet 0 = .ok (.iload_n 0, 1) := by decide +kernel
theorem dX7_meet_1 : decode cX7_meet 1 = .ok (.iload_n 1, 1) := by decide +kernel
theorem dX7_meet_2 : decode cX7_meet 2 = .ok (.if_icmp .ge 7, 3) := by decide +kernel
theorem dX7_meet_5 : decode cX7_meet 5 = .ok (.iload_n 0, 1) := by decide +kernel
theorem dX7_meet_6 : decode cX7_meet 6 = .ok (.goto 4, 3) := by decide +kernel
theorem dX7_meet_9 : decode cX7_meet 9 = .ok (.iload_n 1, 1) := by decide +kernel
theorem dX7_meet_10 : decode cX7_meet 10 = .ok (.istore 4, 2) := by decide +kernel
theorem dX7_meet_12 : decode cX7_meet 12 = .ok (.iload_n 0, 1) := by decide +kernel
theorem dX7_meet_13 : decode cX7_meet 13 = .ok (.iload_n 1, 1) := by decide +kernel
theorem dX7_meet_14 : decode cX7_meet 14 = .ok (.if_icmp .ge 7, 3) := by decide +kernel
theorem dX7_meet_17 : decode cX7_meet 17 = .ok (.iload_n 1, 1) := by decide +kernel
theorem dX7_meet_18 : decode cX7_meet 18 = .ok (.goto 4, 3) := by decide +kernel
theorem dX7_meet_21 : decode cX7_meet 21 = .ok (.iload_n 0, 1) := by decide +kernel
theorem dX7_meet_22 : decode cX7_meet 22 = .ok (.istore 5, 2) := by decide +kernel
theorem dX7_meet_24 : decode cX7_meet 24 = .ok (.iload_n 2, 1) := by decide +kernel
theorem dX7_meet_25 : decode cX7_meet 25 = .ok (.iload 4, 2) := by decide +kernel
theorem dX7_meet_27 : decode cX7_meet 27 = .ok (.if_icmp .ge 9, 3) := by decide +kernel
theorem dX7_meet_30 : decode cX7_meet 30 = .ok (.iload_n 3, 1) := by decide +kernel
theorem dX7_meet_31 : decode cX7_meet 31 = .ok (.iload 4, 2) := by decide +kernel
theorem dX7_meet_33 : decode cX7_meet 33 = .ok (.if_icmp .lt 19, 3) := by decide +kernel
theorem dX7_meet_36 : decode cX7_meet 36 = .ok (.iload_n 2, 1) := by decide +kernel
theorem dX7_meet_37 : decode cX7_meet 37 = .ok (.iload 5, 2) := by decide +kernel
theorem dX7_meet_39 : decode cX7_meet 39 = .ok (.if_icmp .le 9, 3) := by decide +kernel
theorem dX7_meet_42 : decode cX7_meet 42 = .ok (.iload_n 3, 1) := by decide +kernel
theorem dX7_meet_43 : decode cX7_meet 43 = .ok (.iload 5, 2) := by decide +kernel
theorem dX7_meet_45 : decode cX7_meet 45 = .ok (.if_icmp .gt 7, 3) := by decide +kernel
theorem dX7_meet_48 : decode cX7_meet 48 = .ok (.iconst 1, 1) := by decide +kernel
theorem dX7_meet_49 : decode cX7_meet 49 = .ok (.goto 4, 3) := by decide +kernel
theorem dX7_meet_52 : decode cX7_meet 52 = .ok (.iconst 0, 1) := by decide +kernel
theorem dX7_meet_53 : decode cX7_meet 53 = .ok (.ireturn, 1) := by decide +kernel
theorem dX7_cross_0 : decode cX7_cross 0 = .ok (.aload_n 0, 1) := by decide +kernel
theorem dX7_cross_1 : decode cX7_cross 1 = .ok (.getfield 16, 3) := by decide +kernel
theorem dX7_cross_4 : decode cX7_cross 4 = .ok (.iload_n 1, 1) := by decide +kernel
theorem dX7_cross_5 : decode cX7_cross 5 = .ok (.iaload, 1) := by decide +kernel
theorem dX7_cross_6 : decode cX7_cross 6 = .ok (.istore_n 3, 1) := by decide +kernel
theorem dX7_cross_7 : decode cX7_cross 7 = .ok (.aload_n 0, 1) := by decide +kernel
theorem dX7_cross_8 : decode cX7_cross 8 = .ok (.getfield 19, 3) := by decide +kernel
theorem dX7_cross_11 : decode cX7_cross 11 = .ok (.iload_n 1, 1) := by decide +kernel
theorem dX7_cross_12 : decode cX7_cross 12 = .ok (.iaload, 1) := by decide +kernel
theorem dX7_cross_13 : decode cX7_cross 13 = .ok (.istore 4, 2) := by decide +kernel
theorem dX7_cross_15 : decode cX7_cross 15 = .ok (.aload_n 0, 1) := by decide +kernel
theorem dX7_cross_16 : decode cX7_cross 16 = .ok (.getfield 16, 3) := by decide +kernel
theorem dX7_cross_19 : decode cX7_cross 19 = .ok (.iload_n 2, 1) := by decide +kernel
theorem dX7_cross_20 : decode cX7_cross 20 = .ok (.iaload, 1) := by decide +kernel
theorem dX7_cross_21 : decode cX7_cross 21 = .ok (.istore 5, 2) := by decide +kernel
theorem dX7_cross_23 : decode cX7_cross 23 = .ok (.aload_n 0, 1) := by decide +kernel
theorem dX7_cross_24 : decode cX7_cross 24 = .ok (.getfield 19, 3) := by decide +kernel
theorem dX7_cross_27 : decode cX7_cross 27 = .ok (.iload_n 2, 1) := by decide +kernel
theorem dX7_cross_28 : decode cX7_cross 28 = .ok (.iaload, 1) := by decide +kernel
theorem dX7_cross_29 : decode cX7_cross 29 = .ok (.istore 6, 2) := by decide +kernel
theorem dX7_cross_31 : decode cX7_cross 31 = .ok (.iload_n 3, 1) := by decide +kernel
theorem dX7_cross_32 : decode cX7_cross 32 = .ok (.iload 5, 2) := by decide +kernel
theorem dX7_cross_34 : decode cX7_cross 34 = .ok (.if_icmp .eq 23, 3) := by decide +kernel
theorem dX7_cross_37 : decode cX7_cross 37 = .ok (.iload_n 3, 1) := by decide +kernel
theorem dX7_cross_38 : decode cX7_cross 38 = .ok (.iload 6, 2) := by decide +kernel
theorem dX7_cross_40 : decode cX7_cross 40 = .ok (.if_icmp .eq 17, 3) := by decide +kernel
theorem dX7_cross_43 : decode cX7_cross 43 = .ok (.iload 4, 2) := by decide +kernel
theorem dX7_cross_45 : decode cX7_cross 45 = .ok (.iload 5, 2) := by decide +kernel
theorem dX7_cross_47 : decode cX7_cross 47 = .ok (.if_icmp .eq 10, 3) := by decide +kernel
theorem dX7_cross_50 : decode cX7_cross 50 = .ok (.iload 4, 2) := by decide +kernel
theorem dX7_cross_52 : decode cX7_cross 52 = .ok (.iload 6, 2) := by decide +kernel
theorem dX7_cross_54 : decode cX7_cross 54 = .ok (.if_icmp .ne 5, 3) := by decide +kernel
theorem dX7_cross_57 : decode cX7_cross 57 = .ok (.iconst 0, 1) := by decide +kernel
theorem dX7_cross_58 : decode cX7_cross 58 = .ok (.ireturn, 1) := by decide +kernel
theorem dX7_cross_59 : decode cX7_cross 59 = .ok (.aload_n 0, 1) := by decide +kernel
theorem dX7_cross_60 : decode cX7_cross 60 = .ok (.getfield 7, 3) := by decide +kernel
theorem dX7_cross_63 : decode cX7_cross 63 = .ok (.iload_n 3, 1) := by decide +kernel
theorem dX7_cross_64 : decode cX7_cross 64 = .ok (.iaload, 1) := by decide +kernel
theorem dX7_cross_65 : decode cX7_cross 65 = .ok (.aload_n 0, 1) := by decide +kernel
theorem dX7_cross_66 : decode cX7_cross 66 = .ok (.getfield 7, 3) := by decide +kernel
theorem dX7_cross_69 : decode cX7_cross 69 = .ok (.iload 4, 2) := by decide +kernel
theorem dX7_cross_71 : decode cX7_cross 71 = .ok (.iaload, 1) := by decide +kernel
theorem dX7_cross_72 : decode cX7_cross 72 = .ok (.aload_n 0, 1) := by decide +kernel
theorem dX7_cross_73 : decode cX7_cross 73 = .ok (.getfield 7, 3) := by decide +kernel
theorem dX7_cross_76 : decode cX7_cross 76 = .ok (.iload 5, 2) := by decide +kernel
theorem dX7_cross_78 : decode cX7_cross 78 = .ok (.iaload, 1) := by decide +kernel
theorem dX7_cross_79 : decode cX7_cross 79 = .ok (.aload_n 0, 1) := by decide +kernel
theorem dX7_cross_80 : decode cX7_cross 80 = .ok (.getfield 7, 3) := by decide +kernel
theorem dX7_cross_83 : decode cX7_cross 83 = .ok (.iload 6, 2) := by decide +kernel
theorem dX7_cross_85 : decode cX7_cross 85 = .ok (.iaload, 1) := by decide +kernel
theorem dX7_cross_86 : decode cX7_cross 86 = .ok (.invokestatic 97, 3) := by decide +kernel
theorem dX7_cross_89 : decode cX7_cross 89 = .ok (.ifCond .eq 40, 3) := by decide +kernel
theorem dX7_cross_92 : decode cX7_cross 92 = .ok (.aload_n 0, 1) := by decide +kernel
theorem dX7_cross_93 : decode cX7_cross 93 = .ok (.getfield 13, 3) := by decide +kernel
theorem dX7_cross_96 : decode cX7_cross 96 = .ok (.iload_n 3, 1) := by decide +kernel
theorem dX7_cross_97 : decode cX7_cross 97 = .ok (.iaload, 1) := by decide +kernel
theorem dX7_cross_98 : decode cX7_cross 98 = .ok (.aload_n 0, 1) := by decide +kernel
theorem dX7_cross_99 : decode cX7_cross 99 = .ok (.getfield 13, 3) := by decide +kernel
theorem dX7_cross_102 : decode cX7_cross 102 = .ok (.iload 4, 2) := by decide +kernel
theorem dX7_cross_104 : decode cX7_cross 104 = .ok (.iaload, 1) := by decide +kernel
theorem dX7_cross_105 : decode cX7_cross 105 = .ok (.aload_n 0, 1) := by decide +kernel
theorem dX7_cross_106 : decode cX7_cross 106 = .ok (.getfield 13, 3) := by decide +kernel
theorem dX7_cross_109 : decode cX7_cross 109 = .ok (.iload 5, 2) := by decide +kernel
theorem dX7_cross_111 : decode cX7_cross 111 = .ok (.iaload, 1) := by decide +kernel
theorem dX7_cross_112 : decode cX7_cross 112 = .ok (.aload_n 0, 1) := by decide +kernel
theorem dX7_cross_113 : decode cX7_cross 113 = .ok (.getfield 13, 3) := by decide +kernel
theorem dX7_cross_116 : decode cX7_cross 116 = .ok (.iload 6, 2) := by decide +kernel
theorem dX7_cross_118 : decode cX7_cross 118 = .ok (.iaload, 1) := by decide +kernel
theorem dX7_cross_119 : decode cX7_cross 119 = .ok (.invokestatic 97, 3) := by decide +kernel
theorem dX7_cross_122 : decode cX7_cross 122 = .ok (.ifCond .eq 7, 3) := by decide +kernel
theorem dX7_cross_125 : decode cX7_cross 125 = .ok (.iconst 1, 1) := by decide +kernel
theorem dX7_cross_126 : decode cX7_cross 126 = .ok (.goto 4, 3) := by decide +kernel
theorem dX7_cross_129 : decode cX7_cross 129 = .ok (.iconst 0, 1) := by decide +kernel
theorem dX7_cross_130 : decode cX7_cross 130 = .ok (.istore 7, 2) := by decide +kernel
theorem dX7_cross_132 : decode cX7_cross 132 = .ok (.iload 7, 2) := by decide +kernel
theorem dX7_cross_134 : decode cX7_cross 134 = .ok (.ifCond .eq 52, 3) := by decide +kernel
theorem dX7_cross_137 : decode cX7_cross 137 = .ok (.aload_n 0, 1) := by decide +kernel
theorem dX7_cross_138 : decode cX7_cross 138 = .ok (.iload_n 3, 1) := by decide +kernel
theorem dX7_cross_139 : decode cX7_cross 139 = .ok (.iload 4, 2) := by decide +kernel
theorem dX7_cross_141 : decode cX7_cross 141 = .ok (.iload 5, 2) := by decide +kernel
theorem dX7_cross_143 : decode cX7_cross 143 = .ok (.invokevirtual 101, 3) := by decide +kernel
theorem dX7_cross_146 : decode cX7_cross 146 = .ok (.aload_n 0, 1) := by decide +kernel
theorem dX7_cross_147 : decode cX7_cross 147 = .ok (.iload_n 3, 1) := by decide +kernel
theorem dX7_cross_148 : decode cX7_cross 148 = .ok (.iload 4, 2) := by decide +kernel
theorem dX7_cross_150 : decode cX7_cross 150 = .ok (.iload 6, 2) := by decide +kernel
theorem dX7_cross_152 : decode cX7_cross 152 = .ok (.invokevirtual 101, 3) := by decide +kernel
theorem dX7_cross_155 : decode cX7_cross 155 = .ok (.imul, 1) := by decide +kernel
theorem dX7_cross_156 : decode cX7_cross 156 = .ok (.ifCond .gt 30, 3) := by decide +kernel
theorem dX7_cross_159 : decode cX7_cross 159 = .ok (.aload_n 0, 1) := by decide +kernel
theorem dX7_cross_160 : decode cX7_cross 160 = .ok (.iload 5, 2) := by decide +kernel
theorem dX7_cross_162 : decode cX7_cross 162 = .ok (.iload 6, 2) := by decide +kernel
theorem dX7_cross_164 : decode cX7_cross 164 = .ok (.iload_n 3, 1) := by decide +kernel
theorem dX7_cross_165 : decode cX7_cross 165 = .ok (.invokevirtual 101, 3) := by decide +kernel
theorem dX7_cross_168 : decode cX7_cross 168 = .ok (.aload_n 0, 1) := by decide +kernel
theorem dX7_cross_169 : decode cX7_cross 169 = .ok (.iload 5, 2) := by decide +kernel
theorem dX7_cross_171 : decode cX7_cross 171 = .ok (.iload 6, 2) := by decide +kernel
theorem dX7_cross_173 : decode cX7_cross 173 = .ok (.iload 4, 2) := by decide +kernel
theorem dX7_cross_175 : decode cX7_cross 175 = .ok (.invokevirtual 101, 3) := by decide +kernel
theorem dX7_cross_178 : decode cX7_cross 178 = .ok (.imul, 1) := by decide +kernel
theorem dX7_cross_179 : decode cX7_cross 179 = .ok (.ifCond .gt 7, 3) := by decide +kernel
theorem dX7_cross_182 : decode cX7_cross 182 = .ok (.iconst 1, 1) := by decide +kernel
theorem dX7_cross_183 : decode cX7_cross 183 = .ok (.goto 4, 3) := by decide +kernel
theorem dX7_cross_186 : decode cX7_cross 186 = .ok (.iconst 0, 1) := by decide +kernel
theorem dX7_cross_187 : decode cX7_cross 187 = .ok (.ireturn, 1) := by decide +kernel
theorem dX7_crossings_0 : decode cX7_crossings 0 = .ok (.aload_n 0, 1) := by decide +kernel
theorem dX7_crossings_1 : decode cX7_crossings 1 = .ok (.aload_n 0, 1) := by decide +kernel
theorem dX7_crossings_2 : decode cX7_crossings 2 = .ok (.iload_n 1, 1) := by decide +kernel
theorem dX7_crossings_3 : decode cX7_crossings 3 = .ok (.invokevirtual 80, 3) := by decide +kernel
theorem dX7_crossings_6 : decode cX7_crossings 6 = .ok (.ifCond .eq 15, 3) := by decide +kernel
theorem dX7_crossings_9 : decode cX7_crossings 9 = .ok (.aload_n 0, 1) := by decide +kernel
theorem dX7_crossings_10 : decode cX7_crossings 10 = .ok (.iload_n 2, 1) := by decide +kernel
theorem dX7_crossings_11 : decode cX7_crossings 11 = .ok (.invokevirtual 80, 3) := by decide +kernel
theorem dX7_crossings_14 : decode cX7_crossings 14 = .ok (.ifCond .eq 7, 3) := by decide +kernel
theorem dX7_crossings_17 : decode cX7_crossings 17 = .ok (.iconst 0, 1) := by decide +kernel
theorem dX7_crossings_18 : decode cX7_crossings 18 = .ok (.goto 4, 3) := by decide +kernel
theorem dX7_crossings_21 : decode cX7_crossings 21 = .ok (.iconst 1, 1) := by decide +kernel
theorem dX7_crossings_22 : decode cX7_crossings 22 = .ok (.invokevirtual 55, 3) := by decide +kernel
theorem dX7_crossings_25 : decode cX7_crossings 25 = .ok (.ifCond .ne 5, 3) := by decide +kernel
theorem dX7_crossings_28 : decode cX7_crossings 28 = .ok (.iconst 0, 1) := by decide +kernel
theorem dX7_crossings_29 : decode cX7_crossings 29 = .ok (.ireturn, 1) := by decide +kernel
theorem dX7_crossings_30 : decode cX7_crossings 30 = .ok (.iconst 0, 1) := by decide +kernel
theorem dX7_crossings_31 : decode cX7_crossings 31 = .ok (.istore_n 3, 1) := by decide +kernel
theorem dX7_crossings_32 : decode cX7_crossings 32 = .ok (.bipush 10, 2) := by decide +kernel
theorem dX7_crossings_34 : decode cX7_crossings 34 = .ok (.iload_n 1, 1) := by decide +kernel
theorem dX7_crossings_35 : decode cX7_crossings 35 = .ok (.imul, 1) := by decide +kernel
theorem dX7_crossings_36 : decode cX7_crossings 36 = .ok (.istore 4, 2) := by decide +kernel
theorem dX7_crossings_38 : decode cX7_crossings 38 = .ok (.iload 4, 2) := by decide +kernel
theorem dX7_crossings_40 : decode cX7_crossings 40 = .ok (.bipush 10, 2) := by decide +kernel
theorem dX7_crossings_42 : decode cX7_crossings 42 = .ok (.iload_n 1, 1) := by decide +kernel
theorem dX7_crossings_43 : decode cX7_crossings 43 = .ok (.imul, 1) := by decide +kernel
theorem dX7_crossings_44 : decode cX7_crossings 44 = .ok (.aload_n 0, 1) := by decide +kernel
theorem dX7_crossings_45 : decode cX7_crossings 45 = .ok (.getfield 22, 3) := by decide +kernel
theorem dX7_crossings_48 : decode cX7_crossings 48 = .ok (.iload_n 1, 1) := by decide +kernel
theorem dX7_crossings_49 : decode cX7_crossings 49 = .ok (.iaload, 1) := by decide +kernel
theorem dX7_crossings_50 : decode cX7_crossings 50 = .ok (.iadd, 1) := by decide +kernel
theorem dX7_crossings_51 : decode cX7_crossings 51 = .ok (.if_icmp .ge 68, 3) := by decide +kernel
theorem dX7_crossings_54 : decode cX7_crossings 54 = .ok (.bipush 10, 2) := by decide +kernel
theorem dX7_crossings_56 : decode cX7_crossings 56 = .ok (.iload_n 2, 1) := by decide +kernel
theorem dX7_crossings_57 : decode cX7_crossings 57 = .ok (.imul, 1) := by decide +kernel
theorem dX7_crossings_58 : decode cX7_crossings 58 = .ok (.istore 5, 2) := by decide +kernel
theorem dX7_crossings_60 : decode cX7_crossings 60 = .ok (.iload 5, 2) := by decide +kernel
theorem dX7_crossings_62 : decode cX7_crossings 62 = .ok (.bipush 10, 2) := by decide +kernel
theorem dX7_crossings_64 : decode cX7_crossings 64 = .ok (.iload_n 2, 1) := by decide +kernel
theorem dX7_crossings_65 : decode cX7_crossings 65 = .ok (.imul, 1) := by decide +kernel
theorem dX7_crossings_66 : decode cX7_crossings 66 = .ok (.aload_n 0, 1) := by decide +kernel
theorem dX7_crossings_67 : decode cX7_crossings 67 = .ok (.getfield 22, 3) := by decide +kernel
theorem dX7_crossings_70 : decode cX7_crossings 70 = .ok (.iload_n 2, 1) := by decide +kernel
theorem dX7_crossings_71 : decode cX7_crossings 71 = .ok (.iaload, 1) := by decide +kernel
theorem dX7_crossings_72 : decode cX7_crossings 72 = .ok (.iadd, 1) := by decide +kernel
theorem dX7_crossings_73 : decode cX7_crossings 73 = .ok (.if_icmp .ge 40, 3) := by decide +kernel
theorem dX7_crossings_76 : decode cX7_crossings 76 = .ok (.iload_n 3, 1) := by decide +kernel
theorem dX7_crossings_77 : decode cX7_crossings 77 = .ok (.iload_n 1, 1) := by decide +kernel
theorem dX7_crossings_78 : decode cX7_crossings 78 = .ok (.iload_n 2, 1) := by decide +kernel
theorem dX7_crossings_79 : decode cX7_crossings 79 = .ok (.if_icmp .ne 10, 3) := by decide +kernel
theorem dX7_crossings_82 : decode cX7_crossings 82 = .ok (.iload 4, 2) := by decide +kernel
theorem dX7_crossings_84 : decode cX7_crossings 84 = .ok (.iload 5, 2) := by decide +kernel
theorem dX7_crossings_86 : decode cX7_crossings 86 = .ok (.if_icmp .ge 18, 3) := by decide +kernel
theorem dX7_crossings_89 : decode cX7_crossings 89 = .ok (.aload_n 0, 1) := by decide +kernel
theorem dX7_crossings_90 : decode cX7_crossings 90 = .ok (.iload 4, 2) := by decide +kernel
theorem dX7_crossings_92 : decode cX7_crossings 92 = .ok (.iload 5, 2) := by decide +kernel
theorem dX7_crossings_94 : decode cX7_crossings 94 = .ok (.invokevirtual 105, 3) := by decide +kernel
theorem dX7_crossings_97 : decode cX7_crossings 97 = .ok (.ifCond .eq 7, 3) := by decide +kernel
theorem dX7_crossings_100 : decode cX7_crossings 100 = .ok (.iconst 1, 1) := by decide +kernel
theorem dX7_crossings_101 : decode cX7_crossings 101 = .ok (.goto 4, 3) := by decide +kernel
theorem dX7_crossings_104 : decode cX7_crossings 104 = .ok (.iconst 0, 1) := by decide +kernel
theorem dX7_crossings_105 : decode cX7_crossings 105 = .ok (.iadd, 1) := by decide +kernel
theorem dX7_crossings_106 : decode cX7_crossings 106 = .ok (.istore_n 3, 1) := by decide +kernel
theorem dX7_crossings_107 : decode cX7_crossings 107 = .ok (.iinc 5 1, 3) := by decide +kernel
theorem dX7_crossings_110 : decode cX7_crossings 110 = .ok (.goto (-50), 3) := by decide +kernel
theorem dX7_crossings_113 : decode cX7_crossings 113 = .ok (.iinc 4 1, 3) := by decide +kernel
theorem dX7_crossings_116 : decode cX7_crossings 116 = .ok (.goto (-78), 3) := by decide +kernel
theorem dX7_crossings_119 : decode cX7_crossings 119 = .ok (.iload_n 3, 1) := by decide +kernel
theorem dX7_crossings_120 : decode cX7_crossings 120 = .ok (.ireturn, 1) := by decide +kernel
theorem dX7_vote_0 : decode cX7_vote 0 = .ok (.iload_n 1, 1) := by decide +kernel
theorem dX7_vote_1 : decode cX7_vote 1 = .ok (.iconst 0, 1) := by decide +kernel
theorem dX7_vote_2 : decode cX7_vote 2 = .ok (.iconst 5, 1) := by decide +kernel
theorem dX7_vote_3 : decode cX7_vote 3 = .ok (.invokestatic 44, 3) := by decide +kernel
theorem dX7_vote_6 : decode cX7_vote 6 = .ok (.ifCond .eq 15, 3) := by decide +kernel
theorem dX7_vote_9 : decode cX7_vote 9 = .ok (.aload_n 0, 1) := by decide +kernel
theorem dX7_vote_10 : decode cX7_vote 10 = .ok (.iload_n 2, 1) := by decide +kernel
theorem dX7_vote_11 : decode cX7_vote 11 = .ok (.invokevirtual 80, 3) := by decide +kernel
theorem dX7_vote_14 : decode cX7_vote 14 = .ok (.ifCond .eq 7, 3) := by decide +kernel
theorem dX7_vote_17 : decode cX7_vote 17 = .ok (.iconst 1, 1) := by decide +kernel
theorem dX7_vote_18 : decode cX7_vote 18 = .ok (.goto 4, 3) := by decide +kernel
theorem dX7_vote_21 : decode cX7_vote 21 = .ok (.iconst 0, 1) := by decide +kernel
theorem dX7_vote_22 : decode cX7_vote 22 = .ok (.istore 4, 2) := by decide +kernel
theorem dX7_vote_24 : decode cX7_vote 24 = .ok (.aload_n 0, 1) := by decide +kernel
theorem dX7_vote_25 : decode cX7_vote 25 = .ok (.iload 4, 2) := by decide +kernel
theorem dX7_vote_27 : decode cX7_vote 27 = .ok (.ifCond .ne 7, 3) := by decide +kernel
theorem dX7_vote_30 : decode cX7_vote 30 = .ok (.iconst 1, 1) := by decide +kernel
theorem dX7_vote_31 : decode cX7_vote 31 = .ok (.goto 18, 3) := by decide +kernel
theorem dX7_vote_34 : decode cX7_vote 34 = .ok (.iload_n 3, 1) := by decide +kernel
theorem dX7_vote_35 : decode cX7_vote 35 = .ok (.iconst (-1), 1) := by decide +kernel
theorem dX7_vote_36 : decode cX7_vote 36 = .ok (.bipush 9, 2) := by decide +kernel
theorem dX7_vote_38 : decode cX7_vote 38 = .ok (.invokestatic 44, 3) := by decide +kernel
theorem dX7_vote_41 : decode cX7_vote 41 = .ok (.ifCond .ne 7, 3) := by decide +kernel
theorem dX7_vote_44 : decode cX7_vote 44 = .ok (.iconst 2, 1) := by decide +kernel
theorem dX7_vote_45 : decode cX7_vote 45 = .ok (.goto 4, 3) := by decide +kernel
theorem dX7_vote_48 : decode cX7_vote 48 = .ok (.iconst 0, 1) := by decide +kernel
theorem dX7_vote_49 : decode cX7_vote 49 = .ok (.invokevirtual 55, 3) := by decide +kernel
theorem dX7_vote_52 : decode cX7_vote 52 = .ok (.ifCond .ne 5, 3) := by decide +kernel
theorem dX7_vote_55 : decode cX7_vote 55 = .ok (.iconst 0, 1) := by decide +kernel
theorem dX7_vote_56 : decode cX7_vote 56 = .ok (.ireturn, 1) := by decide +kernel
theorem dX7_vote_57 : decode cX7_vote 57 = .ok (.aload_n 0, 1) := by decide +kernel
theorem dX7_vote_58 : decode cX7_vote 58 = .ok (.getfield 25, 3) := by decide +kernel
theorem dX7_vote_61 : decode cX7_vote 61 = .ok (.bipush 6, 2) := by decide +kernel
theorem dX7_vote_63 : decode cX7_vote 63 = .ok (.iload_n 2, 1) := by decide +kernel
theorem dX7_vote_64 : decode cX7_vote 64 = .ok (.imul, 1) := by decide +kernel
theorem dX7_vote_65 : decode cX7_vote 65 = .ok (.iload_n 1, 1) := by decide +kernel
theorem dX7_vote_66 : decode cX7_vote 66 = .ok (.iadd, 1) := by decide +kernel
theorem dX7_vote_67 : decode cX7_vote 67 = .ok (.iaload, 1) := by decide +kernel
theorem dX7_vote_68 : decode cX7_vote 68 = .ok (.iconst 1, 1) := by decide +kernel
theorem dX7_vote_69 : decode cX7_vote 69 = .ok (.isub, 1) := by decide +kernel
theorem dX7_vote_70 : decode cX7_vote 70 = .ok (.istore 5, 2) := by decide +kernel
theorem dX7_vote_72 : decode cX7_vote 72 = .ok (.aload_n 0, 1) := by decide +kernel
theorem dX7_vote_73 : decode cX7_vote 73 = .ok (.getfield 25, 3) := by decide +kernel
theorem dX7_vote_76 : decode cX7_vote 76 = .ok (.bipush 6, 2) := by decide +kernel
theorem dX7_vote_78 : decode cX7_vote 78 = .ok (.iload_n 2, 1) := by decide +kernel
theorem dX7_vote_79 : decode cX7_vote 79 = .ok (.imul, 1) := by decide +kernel
theorem dX7_vote_80 : decode cX7_vote 80 = .ok (.iload_n 1, 1) := by decide +kernel
theorem dX7_vote_81 : decode cX7_vote 81 = .ok (.iadd, 1) := by decide +kernel
theorem dX7_vote_82 : decode cX7_vote 82 = .ok (.iload_n 3, 1) := by decide +kernel
theorem dX7_vote_83 : decode cX7_vote 83 = .ok (.iconst 1, 1) := by decide +kernel
theorem dX7_vote_84 : decode cX7_vote 84 = .ok (.iadd, 1) := by decide +kernel
theorem dX7_vote_85 : decode cX7_vote 85 = .ok (.iastore, 1) := by decide +kernel
theorem dX7_vote_86 : decode cX7_vote 86 = .ok (.iload 5, 2) := by decide +kernel
theorem dX7_vote_88 : decode cX7_vote 88 = .ok (.ireturn, 1) := by decide +kernel
theorem dX7_votesNow_0 : decode cX7_votesNow 0 = .ok (.iconst 0, 1) := by decide +kernel
theorem dX7_votesNow_1 : decode cX7_votesNow 1 = .ok (.istore_n 3, 1) := by decide +kernel
theorem dX7_votesNow_2 : decode cX7_votesNow 2 = .ok (.iconst 0, 1) := by decide +kernel
theorem dX7_votesNow_3 : decode cX7_votesNow 3 = .ok (.istore 4, 2) := by decide +kernel
theorem dX7_votesNow_5 : decode cX7_votesNow 5 = .ok (.iload 4, 2) := by decide +kernel
theorem dX7_votesNow_7 : decode cX7_votesNow 7 = .ok (.bipush 6, 2) := by decide +kernel
theorem dX7_votesNow_9 : decode cX7_votesNow 9 = .ok (.if_icmp .ge 35, 3) := by decide +kernel
theorem dX7_votesNow_12 : decode cX7_votesNow 12 = .ok (.iload_n 3, 1) := by decide +kernel
theorem dX7_votesNow_13 : decode cX7_votesNow 13 = .ok (.aload_n 0, 1) := by decide +kernel
theorem dX7_votesNow_14 : decode cX7_votesNow 14 = .ok (.getfield 25, 3) := by decide +kernel
theorem dX7_votesNow_17 : decode cX7_votesNow 17 = .ok (.bipush 6, 2) := by decide +kernel
theorem dX7_votesNow_19 : decode cX7_votesNow 19 = .ok (.iload_n 1, 1) := by decide +kernel
theorem dX7_votesNow_20 : decode cX7_votesNow 20 = .ok (.imul, 1) := by decide +kernel
theorem dX7_votesNow_21 : decode cX7_votesNow 21 = .ok (.iload 4, 2) := by decide +kernel
theorem dX7_votesNow_23 : decode cX7_votesNow 23 = .ok (.iadd, 1) := by decide +kernel
theorem dX7_votesNow_24 : decode cX7_votesNow 24 = .ok (.iaload, 1) := by decide +kernel
theorem dX7_votesNow_25 : decode cX7_votesNow 25 = .ok (.iload_n 2, 1) := by decide +kernel
theorem dX7_votesNow_26 : decode cX7_votesNow 26 = .ok (.iconst 1, 1) := by decide +kernel
theorem dX7_votesNow_27 : decode cX7_votesNow 27 = .ok (.iadd, 1) := by decide +kernel
theorem dX7_votesNow_28 : decode cX7_votesNow 28 = .ok (.if_icmp .ne 7, 3) := by decide +kernel
theorem dX7_votesNow_31 : decode cX7_votesNow 31 = .ok (.iconst 1, 1) := by decide +kernel
theorem dX7_votesNow_32 : decode cX7_votesNow 32 = .ok (.goto 4, 3) := by decide +kernel
theorem dX7_votesNow_35 : decode cX7_votesNow 35 = .ok (.iconst 0, 1) := by decide +kernel
theorem dX7_votesNow_36 : decode cX7_votesNow 36 = .ok (.iadd, 1) := by decide +kernel
theorem dX7_votesNow_37 : decode cX7_votesNow 37 = .ok (.istore_n 3, 1) := by decide +kernel
theorem dX7_votesNow_38 : decode cX7_votesNow 38 = .ok (.iinc 4 1, 3) := by decide +kernel
theorem dX7_votesNow_41 : decode cX7_votesNow 41 = .ok (.goto (-36), 3) := by decide +kernel
theorem dX7_votesNow_44 : decode cX7_votesNow 44 = .ok (.iload_n 3, 1) := by decide +kernel
theorem dX7_votesNow_45 : decode cX7_votesNow 45 = .ok (.ireturn, 1) := by decide +kernel
theorem dX7_votes_0 : decode cX7_votes 0 = .ok (.aload_n 0, 1) := by decide +kernel
theorem dX7_votes_1 : decode cX7_votes 1 = .ok (.aload_n 0, 1) := by decide +kernel
theorem dX7_votes_2 : decode cX7_votes 2 = .ok (.iload_n 1, 1) := by decide +kernel
theorem dX7_votes_3 : decode cX7_votes 3 = .ok (.invokevirtual 80, 3) := by decide +kernel
theorem dX7_votes_6 : decode cX7_votes 6 = .ok (.ifCond .ne 7, 3) := by decide +kernel
theorem dX7_votes_9 : decode cX7_votes 9 = .ok (.iconst 1, 1) := by decide +kernel
theorem dX7_votes_10 : decode cX7_votes 10 = .ok (.goto 18, 3) := by decide +kernel
theorem dX7_votes_13 : decode cX7_votes 13 = .ok (.iload_n 2, 1) := by decide +kernel
theorem dX7_votes_14 : decode cX7_votes 14 = .ok (.iconst 0, 1) := by decide +kernel
theorem dX7_votes_15 : decode cX7_votes 15 = .ok (.bipush 9, 2) := by decide +kernel
theorem dX7_votes_17 : decode cX7_votes 17 = .ok (.invokestatic 44, 3) := by decide +kernel
theorem dX7_votes_20 : decode cX7_votes 20 = .ok (.ifCond .ne 7, 3) := by decide +kernel
theorem dX7_votes_23 : decode cX7_votes 23 = .ok (.iconst 2, 1) := by decide +kernel
theorem dX7_votes_24 : decode cX7_votes 24 = .ok (.goto 4, 3) := by decide +kernel
theorem dX7_votes_27 : decode cX7_votes 27 = .ok (.iconst 0, 1) := by decide +kernel
theorem dX7_votes_28 : decode cX7_votes 28 = .ok (.invokevirtual 55, 3) := by decide +kernel
theorem dX7_votes_31 : decode cX7_votes 31 = .ok (.ifCond .eq 12, 3) := by decide +kernel
theorem dX7_votes_34 : decode cX7_votes 34 = .ok (.aload_n 0, 1) := by decide +kernel
theorem dX7_votes_35 : decode cX7_votes 35 = .ok (.iload_n 1, 1) := by decide +kernel
theorem dX7_votes_36 : decode cX7_votes 36 = .ok (.iload_n 2, 1) := by decide +kernel
theorem dX7_votes_37 : decode cX7_votes 37 = .ok (.invokevirtual 108, 3) := by decide +kernel
theorem dX7_votes_40 : decode cX7_votes 40 = .ok (.goto 4, 3) := by decide +kernel
theorem dX7_votes_43 : decode cX7_votes 43 = .ok (.iconst 0, 1) := by decide +kernel
theorem dX7_votes_44 : decode cX7_votes 44 = .ok (.ireturn, 1) := by decide +kernel
theorem dX7_gives_0 : decode cX7_gives 0 = .ok (.iconst 0, 1) := by decide +kernel
theorem dX7_gives_1 : decode cX7_gives 1 = .ok (.istore_n 1, 1) := by decide +kernel
theorem dX7_gives_2 : decode cX7_gives 2 = .ok (.iconst 0, 1) := by decide +kernel
theorem dX7_gives_3 : decode cX7_gives 3 = .ok (.istore_n 2, 1) := by decide +kernel
theorem dX7_gives_4 : decode cX7_gives 4 = .ok (.iload_n 2, 1) := by decide +kernel
theorem dX7_gives_5 : decode cX7_gives 5 = .ok (.bipush 8, 2) := by decide +kernel
theorem dX7_gives_7 : decode cX7_gives 7 = .ok (.if_icmp .ge 16, 3) := by decide +kernel
theorem dX7_gives_10 : decode cX7_gives 10 = .ok (.aload_n 0, 1) := by decide +kernel
theorem dX7_gives_11 : decode cX7_gives 11 = .ok (.getfield 28, 3) := by decide +kernel
theorem dX7_gives_14 : decode cX7_gives 14 = .ok (.iload_n 2, 1) := by decide +kernel
theorem dX7_gives_15 : decode cX7_gives 15 = .ok (.iconst (-1), 1) := by decide +kernel
theorem dX7_gives_16 : decode cX7_gives 16 = .ok (.iastore, 1) := by decide +kernel
theorem dX7_gives_17 : decode cX7_gives 17 = .ok (.iinc 2 1, 3) := by decide +kernel
theorem dX7_gives_20 : decode cX7_gives 20 = .ok (.goto (-16), 3) := by decide +kernel
theorem dX7_gives_23 : decode cX7_gives 23 = .ok (.bipush 6, 2) := by decide +kernel
theorem dX7_gives_25 : decode cX7_gives 25 = .ok (.istore_n 2, 1) := by decide +kernel
theorem dX7_gives_26 : decode cX7_gives 26 = .ok (.iload_n 2, 1) := by decide +kernel
theorem dX7_gives_27 : decode cX7_gives 27 = .ok (.ifCond .le 86, 3) := by decide +kernel
theorem dX7_gives_30 : decode cX7_gives 30 = .ok (.iconst 0, 1) := by decide +kernel
theorem dX7_gives_31 : decode cX7_gives 31 = .ok (.istore_n 3, 1) := by decide +kernel
theorem dX7_gives_32 : decode cX7_gives 32 = .ok (.iload_n 3, 1) := by decide +kernel
theorem dX7_gives_33 : decode cX7_gives 33 = .ok (.aload_n 0, 1) := by decide +kernel
theorem dX7_gives_34 : decode cX7_gives 34 = .ok (.getfield 48, 3) := by decide +kernel
theorem dX7_gives_37 : decode cX7_gives 37 = .ok (.if_icmp .ge 70, 3) := by decide +kernel
theorem dX7_gives_40 : decode cX7_gives 40 = .ok (.iconst 0, 1) := by decide +kernel
theorem dX7_gives_41 : decode cX7_gives 41 = .ok (.istore 4, 2) := by decide +kernel
theorem dX7_gives_43 : decode cX7_gives 43 = .ok (.iload 4, 2) := by decide +kernel
theorem dX7_gives_45 : decode cX7_gives 45 = .ok (.bipush 10, 2) := by decide +kernel
theorem dX7_gives_47 : decode cX7_gives 47 = .ok (.if_icmp .ge 54, 3) := by decide +kernel
theorem dX7_gives_50 : decode cX7_gives 50 = .ok (.aload_n 0, 1) := by decide +kernel
theorem dX7_gives_51 : decode cX7_gives 51 = .ok (.getfield 28, 3) := by decide +kernel
theorem dX7_gives_54 : decode cX7_gives 54 = .ok (.iload_n 3, 1) := by decide +kernel
theorem dX7_gives_55 : decode cX7_gives 55 = .ok (.iaload, 1) := by decide +kernel
theorem dX7_gives_56 : decode cX7_gives 56 = .ok (.iconst (-1), 1) := by decide +kernel
theorem dX7_gives_57 : decode cX7_gives 57 = .ok (.if_icmp .ne 38, 3) := by decide +kernel
theorem dX7_gives_60 : decode cX7_gives 60 = .ok (.iload_n 1, 1) := by decide +kernel
theorem dX7_gives_61 : decode cX7_gives 61 = .ok (.iload 4, 2) := by decide +kernel
theorem dX7_gives_63 : decode cX7_gives 63 = .ok (.ishr, 1) := by decide +kernel
theorem dX7_gives_64 : decode cX7_gives 64 = .ok (.iconst 1, 1) := by decide +kernel
theorem dX7_gives_65 : decode cX7_gives 65 = .ok (.iand, 1) := by decide +kernel
theorem dX7_gives_66 : decode cX7_gives 66 = .ok (.ifCond .ne 29, 3) := by decide +kernel
theorem dX7_gives_69 : decode cX7_gives 69 = .ok (.aload_n 0, 1) := by decide +kernel
theorem dX7_gives_70 : decode cX7_gives 70 = .ok (.iload_n 3, 1) := by decide +kernel
theorem dX7_gives_71 : decode cX7_gives 71 = .ok (.iload 4, 2) := by decide +kernel
theorem dX7_gives_73 : decode cX7_gives 73 = .ok (.invokevirtual 108, 3) := by decide +kernel
theorem dX7_gives_76 : decode cX7_gives 76 = .ok (.iload_n 2, 1) := by decide +kernel
theorem dX7_gives_77 : decode cX7_gives 77 = .ok (.if_icmp .ne 18, 3) := by decide +kernel
theorem dX7_gives_80 : decode cX7_gives 80 = .ok (.aload_n 0, 1) := by decide +kernel
theorem dX7_gives_81 : decode cX7_gives 81 = .ok (.getfield 28, 3) := by decide +kernel
theorem dX7_gives_84 : decode cX7_gives 84 = .ok (.iload_n 3, 1) := by decide +kernel
theorem dX7_gives_85 : decode cX7_gives 85 = .ok (.iload 4, 2) := by decide +kernel
theorem dX7_gives_87 : decode cX7_gives 87 = .ok (.iastore, 1) := by decide +kernel
theorem dX7_gives_88 : decode cX7_gives 88 = .ok (.iload_n 1, 1) := by decide +kernel
theorem dX7_gives_89 : decode cX7_gives 89 = .ok (.iconst 1, 1) := by decide +kernel
theorem dX7_gives_90 : decode cX7_gives 90 = .ok (.iload 4, 2) := by decide +kernel
theorem dX7_gives_92 : decode cX7_gives 92 = .ok (.ishl, 1) := by decide +kernel
theorem dX7_gives_93 : decode cX7_gives 93 = .ok (.ior, 1) := by decide +kernel
theorem dX7_gives_94 : decode cX7_gives 94 = .ok (.istore_n 1, 1) := by decide +kernel
theorem dX7_gives_95 : decode cX7_gives 95 = .ok (.iinc 4 1, 3) := by decide +kernel
theorem dX7_gives_98 : decode cX7_gives 98 = .ok (.goto (-55), 3) := by decide +kernel
theorem dX7_gives_101 : decode cX7_gives 101 = .ok (.iinc 3 1, 3) := by decide +kernel
theorem dX7_gives_104 : decode cX7_gives 104 = .ok (.goto (-72), 3) := by decide +kernel
theorem dX7_gives_107 : decode cX7_gives 107 = .ok (.iinc 2 (-1), 3) := by decide +kernel
theorem dX7_gives_110 : decode cX7_gives 110 = .ok (.goto (-84), 3) := by decide +kernel
theorem dX7_gives_113 : decode cX7_gives 113 = .ok (.return_, 1) := by decide +kernel
theorem dX7_nameNow_0 : decode cX7_nameNow 0 = .ok (.aload_n 0, 1) := by decide +kernel
theorem dX7_nameNow_1 : decode cX7_nameNow 1 = .ok (.invokevirtual 112, 3) := by decide +kernel
theorem dX7_nameNow_4 : decode cX7_nameNow 4 = .ok (.aload_n 0, 1) := by decide +kernel
theorem dX7_nameNow_5 : decode cX7_nameNow 5 = .ok (.getfield 28, 3) := by decide +kernel
theorem dX7_nameNow_8 : decode cX7_nameNow 8 = .ok (.iload_n 1, 1) := by decide +kernel
theorem dX7_nameNow_9 : decode cX7_nameNow 9 = .ok (.iaload, 1) := by decide +kernel
theorem dX7_nameNow_10 : decode cX7_nameNow 10 = .ok (.ireturn, 1) := by decide +kernel
theorem dX7_nameOf_0 : decode cX7_nameOf 0 = .ok (.aload_n 0, 1) := by decide +kernel
theorem dX7_nameOf_1 : decode cX7_nameOf 1 = .ok (.aload_n 0, 1) := by decide +kernel
theorem dX7_nameOf_2 : decode cX7_nameOf 2 = .ok (.iload_n 1, 1) := by decide +kernel
theorem dX7_nameOf_3 : decode cX7_nameOf 3 = .ok (.invokevirtual 80, 3) := by decide +kernel
theorem dX7_nameOf_6 : decode cX7_nameOf 6 = .ok (.ifCond .eq 7, 3) := by decide +kernel
theorem dX7_nameOf_9 : decode cX7_nameOf 9 = .ok (.iconst 0, 1) := by decide +kernel
theorem dX7_nameOf_10 : decode cX7_nameOf 10 = .ok (.goto 4, 3) := by decide +kernel
theorem dX7_nameOf_13 : decode cX7_nameOf 13 = .ok (.iconst 1, 1) := by decide +kernel
theorem dX7_nameOf_14 : decode cX7_nameOf 14 = .ok (.invokevirtual 55, 3) := by decide +kernel
theorem dX7_nameOf_17 : decode cX7_nameOf 17 = .ok (.ifCond .eq 11, 3) := by decide +kernel
theorem dX7_nameOf_20 : decode cX7_nameOf 20 = .ok (.aload_n 0, 1) := by decide +kernel
theorem dX7_nameOf_21 : decode cX7_nameOf 21 = .ok (.iload_n 1, 1) := by decide +kernel
theorem dX7_nameOf_22 : decode cX7_nameOf 22 = .ok (.invokevirtual 115, 3) := by decide +kernel
theorem dX7_nameOf_25 : decode cX7_nameOf 25 = .ok (.goto 4, 3) := by decide +kernel
theorem dX7_nameOf_28 : decode cX7_nameOf 28 = .ok (.iconst 0, 1) := by decide +kernel
theorem dX7_nameOf_29 : decode cX7_nameOf 29 = .ok (.ireturn, 1) := by decide +kernel
theorem dX7_quotient_0 : decode cX7_quotient 0 = .ok (.iload_n 0, 1) := by decide +kernel
theorem dX7_quotient_1 : decode cX7_quotient 1 = .ok (.iload_n 1, 1) := by decide +kernel
theorem dX7_quotient_2 : decode cX7_quotient 2 = .ok (.idiv, 1) := by decide +kernel
theorem dX7_quotient_3 : decode cX7_quotient 3 = .ok (.iload_n 0, 1) := by decide +kernel
theorem dX7_quotient_4 : decode cX7_quotient 4 = .ok (.iload_n 1, 1) := by decide +kernel
theorem dX7_quotient_5 : decode cX7_quotient 5 = .ok (.irem, 1) := by decide +kernel
theorem dX7_quotient_6 : decode cX7_quotient 6 = .ok (.ifCond .ge 7, 3) := by decide +kernel
theorem dX7_quotient_9 : decode cX7_quotient 9 = .ok (.iconst 1, 1) := by decide +kernel
theorem dX7_quotient_10 : decode cX7_quotient 10 = .ok (.goto 4, 3) := by decide +kernel
theorem dX7_quotient_13 : decode cX7_quotient 13 = .ok (.iconst 0, 1) := by decide +kernel
theorem dX7_quotient_14 : decode cX7_quotient 14 = .ok (.isub, 1) := by decide +kernel
theorem dX7_quotient_15 : decode cX7_quotient 15 = .ok (.ireturn, 1) := by decide +kernel
theorem dX7_sine_0 : decode cX7_sine 0 = .ok (.iload_n 0, 1) := by decide +kernel
theorem dX7_sine_1 : decode cX7_sine 1 = .ok (.sipush 360, 3) := by decide +kernel
theorem dX7_sine_4 : decode cX7_sine 4 = .ok (.irem, 1) := by decide +kernel
theorem dX7_sine_5 : decode cX7_sine 5 = .ok (.sipush 360, 3) := by decide +kernel
theorem dX7_sine_8 : decode cX7_sine 8 = .ok (.iadd, 1) := by decide +kernel
theorem dX7_sine_9 : decode cX7_sine 9 = .ok (.sipush 360, 3) := by decide +kernel
theorem dX7_sine_12 : decode cX7_sine 12 = .ok (.irem, 1) := by decide +kernel
theorem dX7_sine_13 : decode cX7_sine 13 = .ok (.istore_n 1, 1) := by decide +kernel
theorem dX7_sine_14 : decode cX7_sine 14 = .ok (.iload_n 1, 1) := by decide +kernel
theorem dX7_sine_15 : decode cX7_sine 15 = .ok (.sipush 180, 3) := by decide +kernel
theorem dX7_sine_18 : decode cX7_sine 18 = .ok (.irem, 1) := by decide +kernel
theorem dX7_sine_19 : decode cX7_sine 19 = .ok (.istore_n 2, 1) := by decide +kernel
theorem dX7_sine_20 : decode cX7_sine 20 = .ok (.sipush 4000, 3) := by decide +kernel
theorem dX7_sine_23 : decode cX7_sine 23 = .ok (.iload_n 2, 1) := by decide +kernel
theorem dX7_sine_24 : decode cX7_sine 24 = .ok (.imul, 1) := by decide +kernel
theorem dX7_sine_25 : decode cX7_sine 25 = .ok (.sipush 180, 3) := by decide +kernel
theorem dX7_sine_28 : decode cX7_sine 28 = .ok (.iload_n 2, 1) := by decide +kernel
theorem dX7_sine_29 : decode cX7_sine 29 = .ok (.isub, 1) := by decide +kernel
theorem dX7_sine_30 : decode cX7_sine 30 = .ok (.imul, 1) := by decide +kernel
theorem dX7_sine_31 : decode cX7_sine 31 = .ok (.ldc 118, 2) := by decide +kernel
theorem dX7_sine_33 : decode cX7_sine 33 = .ok (.iload_n 2, 1) := by decide +kernel
theorem dX7_sine_34 : decode cX7_sine 34 = .ok (.sipush 180, 3) := by decide +kernel
theorem dX7_sine_37 : decode cX7_sine 37 = .ok (.iload_n 2, 1) := by decide +kernel
theorem dX7_sine_38 : decode cX7_sine 38 = .ok (.isub, 1) := by decide +kernel
theorem dX7_sine_39 : decode cX7_sine 39 = .ok (.imul, 1) := by decide +kernel
theorem dX7_sine_40 : decode cX7_sine 40 = .ok (.isub, 1) := by decide +kernel
theorem dX7_sine_41 : decode cX7_sine 41 = .ok (.idiv, 1) := by decide +kernel
theorem dX7_sine_42 : decode cX7_sine 42 = .ok (.istore_n 3, 1) := by decide +kernel
theorem dX7_sine_43 : decode cX7_sine 43 = .ok (.iload_n 1, 1) := by decide +kernel
theorem dX7_sine_44 : decode cX7_sine 44 = .ok (.sipush 180, 3) := by decide +kernel
theorem dX7_sine_47 : decode cX7_sine 47 = .ok (.if_icmp .ge 7, 3) := by decide +kernel
theorem dX7_sine_50 : decode cX7_sine 50 = .ok (.iload_n 3, 1) := by decide +kernel
theorem dX7_sine_51 : decode cX7_sine 51 = .ok (.goto 5, 3) := by decide +kernel
theorem dX7_sine_54 : decode cX7_sine 54 = .ok (.iload_n 3, 1) := by decide +kernel
theorem dX7_sine_55 : decode cX7_sine 55 = .ok (.ineg, 1) := by decide +kernel
theorem dX7_sine_56 : decode cX7_sine 56 = .ok (.ireturn, 1) := by decide +kernel
theorem dX7_cosine_0 : decode cX7_cosine 0 = .ok (.iload_n 0, 1) := by decide +kernel
theorem dX7_cosine_1 : decode cX7_cosine 1 = .ok (.bipush 90, 2) := by decide +kernel
theorem dX7_cosine_3 : decode cX7_cosine 3 = .ok (.iadd, 1) := by decide +kernel
theorem dX7_cosine_4 : decode cX7_cosine 4 = .ok (.invokestatic 119, 3) := by decide +kernel
theorem dX7_cosine_7 : decode cX7_cosine 7 = .ok (.ireturn, 1) := by decide +kernel
theorem dX7_heightNow_0 : decode cX7_heightNow 0 = .ok (.bipush 15, 2) := by decide +kernel
theorem dX7_heightNow_2 : decode cX7_heightNow 2 = .ok (.iload 4, 2) := by decide +kernel
theorem dX7_heightNow_4 : decode cX7_heightNow 4 = .ok (.imul, 1) := by decide +kernel
theorem dX7_heightNow_5 : decode cX7_heightNow 5 = .ok (.iload_n 3, 1) := by decide +kernel
theorem dX7_heightNow_6 : decode cX7_heightNow 6 = .ok (.iadd, 1) := by decide +kernel
theorem dX7_heightNow_7 : decode cX7_heightNow 7 = .ok (.aload_n 0, 1) := by decide +kernel
theorem dX7_heightNow_8 : decode cX7_heightNow 8 = .ok (.getfield 7, 3) := by decide +kernel
theorem dX7_heightNow_11 : decode cX7_heightNow 11 = .ok (.iload_n 1, 1) := by decide +kernel
theorem dX7_heightNow_12 : decode cX7_heightNow 12 = .ok (.iaload, 1) := by decide +kernel
theorem dX7_heightNow_13 : decode cX7_heightNow 13 = .ok (.isub, 1) := by decide +kernel
theorem dX7_heightNow_14 : decode cX7_heightNow 14 = .ok (.istore 5, 2) := by decide +kernel
theorem dX7_heightNow_16 : decode cX7_heightNow 16 = .ok (.iload_n 2, 1) := by decide +kernel
theorem dX7_heightNow_17 : decode cX7_heightNow 17 = .ok (.invokestatic 122, 3) := by decide +kernel
theorem dX7_heightNow_20 : decode cX7_heightNow 20 = .ok (.aload_n 0, 1) := by decide +kernel
theorem dX7_heightNow_21 : decode cX7_heightNow 21 = .ok (.getfield 13, 3) := by decide +kernel
theorem dX7_heightNow_24 : decode cX7_heightNow 24 = .ok (.iload_n 1, 1) := by decide +kernel
theorem dX7_heightNow_25 : decode cX7_heightNow 25 = .ok (.iaload, 1) := by decide +kernel
theorem dX7_heightNow_26 : decode cX7_heightNow 26 = .ok (.invokestatic 122, 3) := by decide +kernel
theorem dX7_heightNow_29 : decode cX7_heightNow 29 = .ok (.imul, 1) := by decide +kernel
theorem dX7_heightNow_30 : decode cX7_heightNow 30 = .ok (.iload 5, 2) := by decide +kernel
theorem dX7_heightNow_32 : decode cX7_heightNow 32 = .ok (.invokestatic 122, 3) := by decide +kernel
theorem dX7_heightNow_35 : decode cX7_heightNow 35 = .ok (.imul, 1) := by decide +kernel
theorem dX7_heightNow_36 : decode cX7_heightNow 36 = .ok (.sipush 1000, 3) := by decide +kernel
theorem dX7_heightNow_39 : decode cX7_heightNow 39 = .ok (.invokestatic 125, 3) := by decide +kernel
theorem dX7_heightNow_42 : decode cX7_heightNow 42 = .ok (.istore 6, 2) := by decide +kernel
theorem dX7_heightNow_44 : decode cX7_heightNow 44 = .ok (.iload_n 2, 1) := by decide +kernel
theorem dX7_heightNow_45 : decode cX7_heightNow 45 = .ok (.invokestatic 119, 3) := by decide +kernel
theorem dX7_heightNow_48 : decode cX7_heightNow 48 = .ok (.aload_n 0, 1) := by decide +kernel
theorem dX7_heightNow_49 : decode cX7_heightNow 49 = .ok (.getfield 13, 3) := by decide +kernel
theorem dX7_heightNow_52 : decode cX7_heightNow 52 = .ok (.iload_n 1, 1) := by decide +kernel
theorem dX7_heightNow_53 : decode cX7_heightNow 53 = .ok (.iaload, 1) := by decide +kernel
theorem dX7_heightNow_54 : decode cX7_heightNow 54 = .ok (.invokestatic 119, 3) := by decide +kernel
theorem dX7_heightNow_57 : decode cX7_heightNow 57 = .ok (.imul, 1) := by decide +kernel
theorem dX7_heightNow_58 : decode cX7_heightNow 58 = .ok (.iload 6, 2) := by decide +kernel
theorem dX7_heightNow_60 : decode cX7_heightNow 60 = .ok (.iadd, 1) := by decide +kernel
theorem dX7_heightNow_61 : decode cX7_heightNow 61 = .ok (.sipush 1000, 3) := by decide +kernel
theorem dX7_heightNow_64 : decode cX7_heightNow 64 = .ok (.invokestatic 125, 3) := by decide +kernel
theorem dX7_heightNow_67 : decode cX7_heightNow 67 = .ok (.ireturn, 1) := by decide +kernel
theorem dX7_isTime_0 : decode cX7_isTime 0 = .ok (.iload_n 0, 1) := by decide +kernel
theorem dX7_isTime_1 : decode cX7_isTime 1 = .ok (.bipush (-90), 2) := by decide +kernel
theorem dX7_isTime_3 : decode cX7_isTime 3 = .ok (.bipush 90, 2) := by decide +kernel
theorem dX7_isTime_5 : decode cX7_isTime 5 = .ok (.invokestatic 44, 3) := by decide +kernel
theorem dX7_isTime_8 : decode cX7_isTime 8 = .ok (.ifCond .eq 28, 3) := by decide +kernel
theorem dX7_isTime_11 : decode cX7_isTime 11 = .ok (.iload_n 1, 1) := by decide +kernel
theorem dX7_isTime_12 : decode cX7_isTime 12 = .ok (.iconst 0, 1) := by decide +kernel
theorem dX7_isTime_13 : decode cX7_isTime 13 = .ok (.sipush 364, 3) := by decide +kernel
theorem dX7_isTime_16 : decode cX7_isTime 16 = .ok (.invokestatic 44, 3) := by decide +kernel
theorem dX7_isTime_19 : decode cX7_isTime 19 = .ok (.ifCond .eq 17, 3) := by decide +kernel
theorem dX7_isTime_22 : decode cX7_isTime 22 = .ok (.iload_n 2, 1) := by decide +kernel
theorem dX7_isTime_23 : decode cX7_isTime 23 = .ok (.iconst 0, 1) := by decide +kernel
theorem dX7_isTime_24 : decode cX7_isTime 24 = .ok (.bipush 23, 2) := by decide +kernel
theorem dX7_isTime_26 : decode cX7_isTime 26 = .ok (.invokestatic 44, 3) := by decide +kernel
theorem dX7_isTime_29 : decode cX7_isTime 29 = .ok (.ifCond .eq 7, 3) := by decide +kernel
theorem dX7_isTime_32 : decode cX7_isTime 32 = .ok (.iconst 1, 1) := by decide +kernel
theorem dX7_isTime_33 : decode cX7_isTime 33 = .ok (.goto 4, 3) := by decide +kernel
theorem dX7_isTime_36 : decode cX7_isTime 36 = .ok (.iconst 0, 1) := by decide +kernel
theorem dX7_isTime_37 : decode cX7_isTime 37 = .ok (.ireturn, 1) := by decide +kernel
theorem dX7_height_0 : decode cX7_height 0 = .ok (.aload_n 0, 1) := by decide +kernel
theorem dX7_height_1 : decode cX7_height 1 = .ok (.aload_n 0, 1) := by decide +kernel
theorem dX7_height_2 : decode cX7_height 2 = .ok (.iload_n 1, 1) := by decide +kernel
theorem dX7_height_3 : decode cX7_height 3 = .ok (.invokevirtual 62, 3) := by decide +kernel
theorem dX7_height_6 : decode cX7_height 6 = .ok (.ifCond .ne 7, 3) := by decide +kernel
theorem dX7_height_9 : decode cX7_height 9 = .ok (.iconst 1, 1) := by decide +kernel
theorem dX7_height_10 : decode cX7_height 10 = .ok (.goto 18, 3) := by decide +kernel
theorem dX7_height_13 : decode cX7_height 13 = .ok (.iload_n 2, 1) := by decide +kernel
theorem dX7_height_14 : decode cX7_height 14 = .ok (.iload_n 3, 1) := by decide +kernel
theorem dX7_height_15 : decode cX7_height 15 = .ok (.iload 4, 2) := by decide +kernel
theorem dX7_height_17 : decode cX7_height 17 = .ok (.invokestatic 128, 3) := by decide +kernel
theorem dX7_height_20 : decode cX7_height 20 = .ok (.ifCond .ne 7, 3) := by decide +kernel
theorem dX7_height_23 : decode cX7_height 23 = .ok (.iconst 2, 1) := by decide +kernel
theorem dX7_height_24 : decode cX7_height 24 = .ok (.goto 4, 3) := by decide +kernel
theorem dX7_height_27 : decode cX7_height 27 = .ok (.iconst 0, 1) := by decide +kernel
theorem dX7_height_28 : decode cX7_height 28 = .ok (.invokevirtual 55, 3) := by decide +kernel
theorem dX7_height_31 : decode cX7_height 31 = .ok (.ifCond .eq 15, 3) := by decide +kernel
theorem dX7_height_34 : decode cX7_height 34 = .ok (.aload_n 0, 1) := by decide +kernel
theorem dX7_height_35 : decode cX7_height 35 = .ok (.iload_n 1, 1) := by decide +kernel
theorem dX7_height_36 : decode cX7_height 36 = .ok (.iload_n 2, 1) := by decide +kernel
theorem dX7_height_37 : decode cX7_height 37 = .ok (.iload_n 3, 1) := by decide +kernel
theorem dX7_height_38 : decode cX7_height 38 = .ok (.iload 4, 2) := by decide +kernel
theorem dX7_height_40 : decode cX7_height 40 = .ok (.invokevirtual 131, 3) := by decide +kernel
theorem dX7_height_43 : decode cX7_height 43 = .ok (.goto 4, 3) := by decide +kernel
theorem dX7_height_46 : decode cX7_height 46 = .ok (.iconst 0, 1) := by decide +kernel
theorem dX7_height_47 : decode cX7_height 47 = .ok (.ireturn, 1) := by decide +kernel
theorem dX7_lowest_0 : decode cX7_lowest 0 = .ok (.aload_n 0, 1) := by decide +kernel
theorem dX7_lowest_1 : decode cX7_lowest 1 = .ok (.getfield 22, 3) := by decide +kernel
theorem dX7_lowest_4 : decode cX7_lowest 4 = .ok (.iload_n 1, 1) := by decide +kernel
theorem dX7_lowest_5 : decode cX7_lowest 5 = .ok (.iaload, 1) := by decide +kernel
theorem dX7_lowest_6 : decode cX7_lowest 6 = .ok (.ifCond .ne 9, 3) := by decide +kernel
theorem dX7_lowest_9 : decode cX7_lowest 9 = .ok (.sipush (-2000), 3) := by decide +kernel
theorem dX7_lowest_12 : decode cX7_lowest 12 = .ok (.goto 6, 3) := by decide +kernel
theorem dX7_lowest_15 : decode cX7_lowest 15 = .ok (.sipush 2000, 3) := by decide +kernel
theorem dX7_lowest_18 : decode cX7_lowest 18 = .ok (.istore 5, 2) := by decide +kernel
theorem dX7_lowest_20 : decode cX7_lowest 20 = .ok (.bipush 10, 2) := by decide +kernel
theorem dX7_lowest_22 : decode cX7_lowest 22 = .ok (.iload_n 1, 1) := by decide +kernel
theorem dX7_lowest_23 : decode cX7_lowest 23 = .ok (.imul, 1) := by decide +kernel
theorem dX7_lowest_24 : decode cX7_lowest 24 = .ok (.istore 6, 2) := by decide +kernel
theorem dX7_lowest_26 : decode cX7_lowest 26 = .ok (.iload 6, 2) := by decide +kernel
theorem dX7_lowest_28 : decode cX7_lowest 28 = .ok (.bipush 10, 2) := by decide +kernel
theorem dX7_lowest_30 : decode cX7_lowest 30 = .ok (.iload_n 1, 1) := by decide +kernel
theorem dX7_lowest_31 : decode cX7_lowest 31 = .ok (.imul, 1) := by decide +kernel
theorem dX7_lowest_32 : decode cX7_lowest 32 = .ok (.aload_n 0, 1) := by decide +kernel
theorem dX7_lowest_33 : decode cX7_lowest 33 = .ok (.getfield 22, 3) := by decide +kernel
theorem dX7_lowest_36 : decode cX7_lowest 36 = .ok (.iload_n 1, 1) := by decide +kernel
theorem dX7_lowest_37 : decode cX7_lowest 37 = .ok (.iaload, 1) := by decide +kernel
theorem dX7_lowest_38 : decode cX7_lowest 38 = .ok (.iadd, 1) := by decide +kernel
theorem dX7_lowest_39 : decode cX7_lowest 39 = .ok (.if_icmp .ge 75, 3) := by decide +kernel
theorem dX7_lowest_42 : decode cX7_lowest 42 = .ok (.aload_n 0, 1) := by decide +kernel
theorem dX7_lowest_43 : decode cX7_lowest 43 = .ok (.aload_n 0, 1) := by decide +kernel
theorem dX7_lowest_44 : decode cX7_lowest 44 = .ok (.getfield 16, 3) := by decide +kernel
theorem dX7_lowest_47 : decode cX7_lowest 47 = .ok (.iload 6, 2) := by decide +kernel
theorem dX7_lowest_49 : decode cX7_lowest 49 = .ok (.iaload, 1) := by decide +kernel
theorem dX7_lowest_50 : decode cX7_lowest 50 = .ok (.iload_n 2, 1) := by decide +kernel
theorem dX7_lowest_51 : decode cX7_lowest 51 = .ok (.iload_n 3, 1) := by decide +kernel
theorem dX7_lowest_52 : decode cX7_lowest 52 = .ok (.iload 4, 2) := by decide +kernel
theorem dX7_lowest_54 : decode cX7_lowest 54 = .ok (.invokevirtual 131, 3) := by decide +kernel
theorem dX7_lowest_57 : decode cX7_lowest 57 = .ok (.istore 7, 2) := by decide +kernel
theorem dX7_lowest_59 : decode cX7_lowest 59 = .ok (.aload_n 0, 1) := by decide +kernel
theorem dX7_lowest_60 : decode cX7_lowest 60 = .ok (.aload_n 0, 1) := by decide +kernel
theorem dX7_lowest_61 : decode cX7_lowest 61 = .ok (.getfield 19, 3) := by decide +kernel
theorem dX7_lowest_64 : decode cX7_lowest 64 = .ok (.iload 6, 2) := by decide +kernel
theorem dX7_lowest_66 : decode cX7_lowest 66 = .ok (.iaload, 1) := by decide +kernel
theorem dX7_lowest_67 : decode cX7_lowest 67 = .ok (.iload_n 2, 1) := by decide +kernel
theorem dX7_lowest_68 : decode cX7_lowest 68 = .ok (.iload_n 3, 1) := by decide +kernel
theorem dX7_lowest_69 : decode cX7_lowest 69 = .ok (.iload 4, 2) := by decide +kernel
theorem dX7_lowest_71 : decode cX7_lowest 71 = .ok (.invokevirtual 131, 3) := by decide +kernel
theorem dX7_lowest_74 : decode cX7_lowest 74 = .ok (.istore 8, 2) := by decide +kernel
theorem dX7_lowest_76 : decode cX7_lowest 76 = .ok (.iload 7, 2) := by decide +kernel
theorem dX7_lowest_78 : decode cX7_lowest 78 = .ok (.iload 5, 2) := by decide +kernel
theorem dX7_lowest_80 : decode cX7_lowest 80 = .ok (.if_icmp .ge 8, 3) := by decide +kernel
theorem dX7_lowest_83 : decode cX7_lowest 83 = .ok (.iload 7, 2) := by decide +kernel
theorem dX7_lowest_85 : decode cX7_lowest 85 = .ok (.goto 5, 3) := by decide +kernel
theorem dX7_lowest_88 : decode cX7_lowest 88 = .ok (.iload 5, 2) := by decide +kernel
theorem dX7_lowest_90 : decode cX7_lowest 90 = .ok (.istore 5, 2) := by decide +kernel
theorem dX7_lowest_92 : decode cX7_lowest 92 = .ok (.iload 8, 2) := by decide +kernel
theorem dX7_lowest_94 : decode cX7_lowest 94 = .ok (.iload 5, 2) := by decide +kernel
theorem dX7_lowest_96 : decode cX7_lowest 96 = .ok (.if_icmp .ge 8, 3) := by decide +kernel
theorem dX7_lowest_99 : decode cX7_lowest 99 = .ok (.iload 8, 2) := by decide +kernel
theorem dX7_lowest_101 : decode cX7_lowest 101 = .ok (.goto 5, 3) := by decide +kernel
theorem dX7_lowest_104 : decode cX7_lowest 104 = .ok (.iload 5, 2) := by decide +kernel
theorem dX7_lowest_106 : decode cX7_lowest 106 = .ok (.istore 5, 2) := by decide +kernel
theorem dX7_lowest_108 : decode cX7_lowest 108 = .ok (.iinc 6 1, 3) := by decide +kernel
theorem dX7_lowest_111 : decode cX7_lowest 111 = .ok (.goto (-85), 3) := by decide +kernel
theorem dX7_lowest_114 : decode cX7_lowest 114 = .ok (.iload 5, 2) := by decide +kernel
theorem dX7_lowest_116 : decode cX7_lowest 116 = .ok (.ireturn, 1) := by decide +kernel
theorem dX7_isUpNow_0 : decode cX7_isUpNow 0 = .ok (.aload_n 0, 1) := by decide +kernel
theorem dX7_isUpNow_1 : decode cX7_isUpNow 1 = .ok (.iload_n 1, 1) := by decide +kernel
theorem dX7_isUpNow_2 : decode cX7_isUpNow 2 = .ok (.iload_n 2, 1) := by decide +kernel
theorem dX7_isUpNow_3 : decode cX7_isUpNow 3 = .ok (.iload_n 3, 1) := by decide +kernel
theorem dX7_isUpNow_4 : decode cX7_isUpNow 4 = .ok (.iload 4, 2) := by decide +kernel
theorem dX7_isUpNow_6 : decode cX7_isUpNow 6 = .ok (.invokevirtual 135, 3) := by decide +kernel
theorem dX7_isUpNow_9 : decode cX7_isUpNow 9 = .ok (.ifCond .le 7, 3) := by decide +kernel
theorem dX7_isUpNow_12 : decode cX7_isUpNow 12 = .ok (.iconst 1, 1) := by decide +kernel
theorem dX7_isUpNow_13 : decode cX7_isUpNow 13 = .ok (.goto 4, 3) := by decide +kernel
theorem dX7_isUpNow_16 : decode cX7_isUpNow 16 = .ok (.iconst 0, 1) := by decide +kernel
theorem dX7_isUpNow_17 : decode cX7_isUpNow 17 = .ok (.ireturn, 1) := by decide +kernel
theorem dX7_isUp_0 : decode cX7_isUp 0 = .ok (.aload_n 0, 1) := by decide +kernel
theorem dX7_isUp_1 : decode cX7_isUp 1 = .ok (.aload_n 0, 1) := by decide +kernel
theorem dX7_isUp_2 : decode cX7_isUp 2 = .ok (.iload_n 1, 1) := by decide +kernel
theorem dX7_isUp_3 : decode cX7_isUp 3 = .ok (.invokevirtual 80, 3) := by decide +kernel
theorem dX7_isUp_6 : decode cX7_isUp 6 = .ok (.ifCond .ne 7, 3) := by decide +kernel
theorem dX7_isUp_9 : decode cX7_isUp 9 = .ok (.iconst 1, 1) := by decide +kernel
theorem dX7_isUp_10 : decode cX7_isUp 10 = .ok (.goto 18, 3) := by decide +kernel
theorem dX7_isUp_13 : decode cX7_isUp 13 = .ok (.iload_n 2, 1) := by decide +kernel
theorem dX7_isUp_14 : decode cX7_isUp 14 = .ok (.iload_n 3, 1) := by decide +kernel
theorem dX7_isUp_15 : decode cX7_isUp 15 = .ok (.iload 4, 2) := by decide +kernel
theorem dX7_isUp_17 : decode cX7_isUp 17 = .ok (.invokestatic 128, 3) := by decide +kernel
theorem dX7_isUp_20 : decode cX7_isUp 20 = .ok (.ifCond .ne 7, 3) := by decide +kernel
theorem dX7_isUp_23 : decode cX7_isUp 23 = .ok (.iconst 2, 1) := by decide +kernel
theorem dX7_isUp_24 : decode cX7_isUp 24 = .ok (.goto 4, 3) := by decide +kernel
theorem dX7_isUp_27 : decode cX7_isUp 27 = .ok (.iconst 0, 1) := by decide +kernel
theorem dX7_isUp_28 : decode cX7_isUp 28 = .ok (.invokevirtual 55, 3) := by decide +kernel
theorem dX7_isUp_31 : decode cX7_isUp 31 = .ok (.ifCond .eq 19, 3) := by decide +kernel
theorem dX7_isUp_34 : decode cX7_isUp 34 = .ok (.aload_n 0, 1) := by decide +kernel
theorem dX7_isUp_35 : decode cX7_isUp 35 = .ok (.iload_n 1, 1) := by decide +kernel
theorem dX7_isUp_36 : decode cX7_isUp 36 = .ok (.iload_n 2, 1) := by decide +kernel
theorem dX7_isUp_37 : decode cX7_isUp 37 = .ok (.iload_n 3, 1) := by decide +kernel
theorem dX7_isUp_38 : decode cX7_isUp 38 = .ok (.iload 4, 2) := by decide +kernel
theorem dX7_isUp_40 : decode cX7_isUp 40 = .ok (.invokevirtual 138, 3) := by decide +kernel
theorem dX7_isUp_43 : decode cX7_isUp 43 = .ok (.ifCond .eq 7, 3) := by decide +kernel
theorem dX7_isUp_46 : decode cX7_isUp 46 = .ok (.iconst 1, 1) := by decide +kernel
theorem dX7_isUp_47 : decode cX7_isUp 47 = .ok (.goto 4, 3) := by decide +kernel
theorem dX7_isUp_50 : decode cX7_isUp 50 = .ok (.iconst 0, 1) := by decide +kernel
theorem dX7_isUp_51 : decode cX7_isUp 51 = .ok (.ireturn, 1) := by decide +kernel
theorem dX7_hoursNow_0 : decode cX7_hoursNow 0 = .ok (.aload_n 0, 1) := by decide +kernel
theorem dX7_hoursNow_1 : decode cX7_hoursNow 1 = .ok (.aload_n 0, 1) := by decide +kernel
theorem dX7_hoursNow_2 : decode cX7_hoursNow 2 = .ok (.iload_n 1, 1) := by decide +kernel
theorem dX7_hoursNow_3 : decode cX7_hoursNow 3 = .ok (.invokevirtual 80, 3) := by decide +kernel
theorem dX7_hoursNow_6 : decode cX7_hoursNow 6 = .ok (.ifCond .ne 7, 3) := by decide +kernel
theorem dX7_hoursNow_9 : decode cX7_hoursNow 9 = .ok (.iconst 1, 1) := by decide +kernel
theorem dX7_hoursNow_10 : decode cX7_hoursNow 10 = .ok (.goto 17, 3) := by decide +kernel
theorem dX7_hoursNow_13 : decode cX7_hoursNow 13 = .ok (.iload_n 2, 1) := by decide +kernel
theorem dX7_hoursNow_14 : decode cX7_hoursNow 14 = .ok (.iload_n 3, 1) := by decide +kernel
theorem dX7_hoursNow_15 : decode cX7_hoursNow 15 = .ok (.iconst 0, 1) := by decide +kernel
theorem dX7_hoursNow_16 : decode cX7_hoursNow 16 = .ok (.invokestatic 128, 3) := by decide +kernel
theorem dX7_hoursNow_19 : decode cX7_hoursNow 19 = .ok (.ifCond .ne 7, 3) := by decide +kernel
theorem dX7_hoursNow_22 : decode cX7_hoursNow 22 = .ok (.iconst 2, 1) := by decide +kernel
theorem dX7_hoursNow_23 : decode cX7_hoursNow 23 = .ok (.goto 4, 3) := by decide +kernel
theorem dX7_hoursNow_26 : decode cX7_hoursNow 26 = .ok (.iconst 0, 1) := by decide +kernel
theorem dX7_hoursNow_27 : decode cX7_hoursNow 27 = .ok (.invokevirtual 55, 3) := by decide +kernel
theorem dX7_hoursNow_30 : decode cX7_hoursNow 30 = .ok (.ifCond .ne 5, 3) := by decide +kernel
theorem dX7_hoursNow_33 : decode cX7_hoursNow 33 = .ok (.iconst 0, 1) := by decide +kernel
theorem dX7_hoursNow_34 : decode cX7_hoursNow 34 = .ok (.ireturn, 1) := by decide +kernel
theorem dX7_hoursNow_35 : decode cX7_hoursNow 35 = .ok (.iconst 0, 1) := by decide +kernel
theorem dX7_hoursNow_36 : decode cX7_hoursNow 36 = .ok (.istore 4, 2) := by decide +kernel
theorem dX7_hoursNow_38 : decode cX7_hoursNow 38 = .ok (.iconst 0, 1) := by decide +kernel
theorem dX7_hoursNow_39 : decode cX7_hoursNow 39 = .ok (.istore 5, 2) := by decide +kernel
theorem dX7_hoursNow_41 : decode cX7_hoursNow 41 = .ok (.iload 5, 2) := by decide +kernel
theorem dX7_hoursNow_43 : decode cX7_hoursNow 43 = .ok (.bipush 24, 2) := by decide +kernel
theorem dX7_hoursNow_45 : decode cX7_hoursNow 45 = .ok (.if_icmp .ge 34, 3) := by decide +kernel
theorem dX7_hoursNow_48 : decode cX7_hoursNow 48 = .ok (.iload 4, 2) := by decide +kernel
theorem dX7_hoursNow_50 : decode cX7_hoursNow 50 = .ok (.aload_n 0, 1) := by decide +kernel
theorem dX7_hoursNow_51 : decode cX7_hoursNow 51 = .ok (.iload_n 1, 1) := by decide +kernel
theorem dX7_hoursNow_52 : decode cX7_hoursNow 52 = .ok (.iload_n 2, 1) := by decide +kernel
theorem dX7_hoursNow_53 : decode cX7_hoursNow 53 = .ok (.iload_n 3, 1) := by decide +kernel
theorem dX7_hoursNow_54 : decode cX7_hoursNow 54 = .ok (.iload 5, 2) := by decide +kernel
theorem dX7_hoursNow_56 : decode cX7_hoursNow 56 = .ok (.invokevirtual 138, 3) := by decide +kernel
theorem dX7_hoursNow_59 : decode cX7_hoursNow 59 = .ok (.ifCond .eq 10, 3) := by decide +kernel
theorem dX7_hoursNow_62 : decode cX7_hoursNow 62 = .ok (.iconst 1, 1) := by decide +kernel
theorem dX7_hoursNow_63 : decode cX7_hoursNow 63 = .ok (.iload 5, 2) := by decide +kernel
theorem dX7_hoursNow_65 : decode cX7_hoursNow 65 = .ok (.ishl, 1) := by decide +kernel
theorem dX7_hoursNow_66 : decode cX7_hoursNow 66 = .ok (.goto 4, 3) := by decide +kernel
theorem dX7_hoursNow_69 : decode cX7_hoursNow 69 = .ok (.iconst 0, 1) := by decide +kernel
theorem dX7_hoursNow_70 : decode cX7_hoursNow 70 = .ok (.ior, 1) := by decide +kernel
theorem dX7_hoursNow_71 : decode cX7_hoursNow 71 = .ok (.istore 4, 2) := by decide +kernel
theorem dX7_hoursNow_73 : decode cX7_hoursNow 73 = .ok (.iinc 5 1, 3) := by decide +kernel
theorem dX7_hoursNow_76 : decode cX7_hoursNow 76 = .ok (.goto (-35), 3) := by decide +kernel
theorem dX7_hoursNow_79 : decode cX7_hoursNow 79 = .ok (.iload 4, 2) := by decide +kernel
theorem dX7_hoursNow_81 : decode cX7_hoursNow 81 = .ok (.ireturn, 1) := by decide +kernel
theorem dX7_hours_0 : decode cX7_hours 0 = .ok (.aload_n 0, 1) := by decide +kernel
theorem dX7_hours_1 : decode cX7_hours 1 = .ok (.iload_n 1, 1) := by decide +kernel
theorem dX7_hours_2 : decode cX7_hours 2 = .ok (.iload_n 2, 1) := by decide +kernel
theorem dX7_hours_3 : decode cX7_hours 3 = .ok (.iload_n 3, 1) := by decide +kernel
theorem dX7_hours_4 : decode cX7_hours 4 = .ok (.invokevirtual 141, 3) := by decide +kernel
theorem dX7_hours_7 : decode cX7_hours 7 = .ok (.ireturn, 1) := by decide +kernel
theorem dX7_hoursByStars_0 : decode cX7_hoursByStars 0 = .ok (.aload_n 0, 1) := by decide +kernel
theorem dX7_hoursByStars_1 : decode cX7_hoursByStars 1 = .ok (.iload_n 1, 1) := by decide +kernel
theorem dX7_hoursByStars_2 : decode cX7_hoursByStars 2 = .ok (.iload_n 2, 1) := by decide +kernel
theorem dX7_hoursByStars_3 : decode cX7_hoursByStars 3 = .ok (.iload_n 3, 1) := by decide +kernel
theorem dX7_hoursByStars_4 : decode cX7_hoursByStars 4 = .ok (.invokevirtual 141, 3) := by decide +kernel
theorem dX7_hoursByStars_7 : decode cX7_hoursByStars 7 = .ok (.ireturn, 1) := by decide +kernel
theorem dX7_bestHour_0 : decode cX7_bestHour 0 = .ok (.aload_n 0, 1) := by decide +kernel
theorem dX7_bestHour_1 : decode cX7_bestHour 1 = .ok (.aload_n 0, 1) := by decide +kernel
theorem dX7_bestHour_2 : decode cX7_bestHour 2 = .ok (.iload_n 1, 1) := by decide +kernel
theorem dX7_bestHour_3 : decode cX7_bestHour 3 = .ok (.invokevirtual 80, 3) := by decide +kernel
theorem dX7_bestHour_6 : decode cX7_bestHour 6 = .ok (.ifCond .ne 7, 3) := by decide +kernel
theorem dX7_bestHour_9 : decode cX7_bestHour 9 = .ok (.iconst 1, 1) := by decide +kernel
theorem dX7_bestHour_10 : decode cX7_bestHour 10 = .ok (.goto 17, 3) := by decide +kernel
theorem dX7_bestHour_13 : decode cX7_bestHour 13 = .ok (.iload_n 2, 1) := by decide +kernel
theorem dX7_bestHour_14 : decode cX7_bestHour 14 = .ok (.iload_n 3, 1) := by decide +kernel
theorem dX7_bestHour_15 : decode cX7_bestHour 15 = .ok (.iconst 0, 1) := by decide +kernel
theorem dX7_bestHour_16 : decode cX7_bestHour 16 = .ok (.invokestatic 128, 3) := by decide +kernel
theorem dX7_bestHour_19 : decode cX7_bestHour 19 = .ok (.ifCond .ne 7, 3) := by decide +kernel
theorem dX7_bestHour_22 : decode cX7_bestHour 22 = .ok (.iconst 2, 1) := by decide +kernel
theorem dX7_bestHour_23 : decode cX7_bestHour 23 = .ok (.goto 4, 3) := by decide +kernel
theorem dX7_bestHour_26 : decode cX7_bestHour 26 = .ok (.iconst 0, 1) := by decide +kernel
theorem dX7_bestHour_27 : decode cX7_bestHour 27 = .ok (.invokevirtual 55, 3) := by decide +kernel
theorem dX7_bestHour_30 : decode cX7_bestHour 30 = .ok (.ifCond .ne 5, 3) := by decide +kernel
theorem dX7_bestHour_33 : decode cX7_bestHour 33 = .ok (.iconst 0, 1) := by decide +kernel
theorem dX7_bestHour_34 : decode cX7_bestHour 34 = .ok (.ireturn, 1) := by decide +kernel
theorem dX7_bestHour_35 : decode cX7_bestHour 35 = .ok (.iconst (-1), 1) := by decide +kernel
theorem dX7_bestHour_36 : decode cX7_bestHour 36 = .ok (.istore 4, 2) := by decide +kernel
theorem dX7_bestHour_38 : decode cX7_bestHour 38 = .ok (.iconst 0, 1) := by decide +kernel
theorem dX7_bestHour_39 : decode cX7_bestHour 39 = .ok (.istore 5, 2) := by decide +kernel
theorem dX7_bestHour_41 : decode cX7_bestHour 41 = .ok (.iconst 0, 1) := by decide +kernel
theorem dX7_bestHour_42 : decode cX7_bestHour 42 = .ok (.istore 6, 2) := by decide +kernel
theorem dX7_bestHour_44 : decode cX7_bestHour 44 = .ok (.iload 6, 2) := by decide +kernel
theorem dX7_bestHour_46 : decode cX7_bestHour 46 = .ok (.bipush 24, 2) := by decide +kernel
theorem dX7_bestHour_48 : decode cX7_bestHour 48 = .ok (.if_icmp .ge 52, 3) := by decide +kernel
theorem dX7_bestHour_51 : decode cX7_bestHour 51 = .ok (.aload_n 0, 1) := by decide +kernel
theorem dX7_bestHour_52 : decode cX7_bestHour 52 = .ok (.iload_n 1, 1) := by decide +kernel
theorem dX7_bestHour_53 : decode cX7_bestHour 53 = .ok (.iload_n 2, 1) := by decide +kernel
theorem dX7_bestHour_54 : decode cX7_bestHour 54 = .ok (.iload_n 3, 1) := by decide +kernel
theorem dX7_bestHour_55 : decode cX7_bestHour 55 = .ok (.iload 6, 2) := by decide +kernel
theorem dX7_bestHour_57 : decode cX7_bestHour 57 = .ok (.invokevirtual 135, 3) := by decide +kernel
theorem dX7_bestHour_60 : decode cX7_bestHour 60 = .ok (.istore 7, 2) := by decide +kernel
theorem dX7_bestHour_62 : decode cX7_bestHour 62 = .ok (.iload 7, 2) := by decide +kernel
theorem dX7_bestHour_64 : decode cX7_bestHour 64 = .ok (.iload 5, 2) := by decide +kernel
theorem dX7_bestHour_66 : decode cX7_bestHour 66 = .ok (.if_icmp .le 8, 3) := by decide +kernel
theorem dX7_bestHour_69 : decode cX7_bestHour 69 = .ok (.iload 6, 2) := by decide +kernel
theorem dX7_bestHour_71 : decode cX7_bestHour 71 = .ok (.goto 5, 3) := by decide +kernel
theorem dX7_bestHour_74 : decode cX7_bestHour 74 = .ok (.iload 4, 2) := by decide +kernel
theorem dX7_bestHour_76 : decode cX7_bestHour 76 = .ok (.istore 4, 2) := by decide +kernel
theorem dX7_bestHour_78 : decode cX7_bestHour 78 = .ok (.iload 7, 2) := by decide +kernel
theorem dX7_bestHour_80 : decode cX7_bestHour 80 = .ok (.iload 5, 2) := by decide +kernel
theorem dX7_bestHour_82 : decode cX7_bestHour 82 = .ok (.if_icmp .le 8, 3) := by decide +kernel
theorem dX7_bestHour_85 : decode cX7_bestHour 85 = .ok (.iload 7, 2) := by decide +kernel
theorem dX7_bestHour_87 : decode cX7_bestHour 87 = .ok (.goto 5, 3) := by decide +kernel
theorem dX7_bestHour_90 : decode cX7_bestHour 90 = .ok (.iload 5, 2) := by decide +kernel
theorem dX7_bestHour_92 : decode cX7_bestHour 92 = .ok (.istore 5, 2) := by decide +kernel
theorem dX7_bestHour_94 : decode cX7_bestHour 94 = .ok (.iinc 6 1, 3) := by decide +kernel
theorem dX7_bestHour_97 : decode cX7_bestHour 97 = .ok (.goto (-53), 3) := by decide +kernel
theorem dX7_bestHour_100 : decode cX7_bestHour 100 = .ok (.iload 4, 2) := by decide +kernel
theorem dX7_bestHour_102 : decode cX7_bestHour 102 = .ok (.ireturn, 1) := by decide +kernel
theorem dX7_season_0 : decode cX7_season 0 = .ok (.aload_n 0, 1) := by decide +kernel
theorem dX7_season_1 : decode cX7_season 1 = .ok (.aload_n 0, 1) := by decide +kernel
theorem dX7_season_2 : decode cX7_season 2 = .ok (.iload_n 1, 1) := by decide +kernel
theorem dX7_season_3 : decode cX7_season 3 = .ok (.invokevirtual 80, 3) := by decide +kernel
theorem dX7_season_6 : decode cX7_season 6 = .ok (.ifCond .ne 7, 3) := by decide +kernel
theorem dX7_season_9 : decode cX7_season 9 = .ok (.iconst 1, 1) := by decide +kernel
theorem dX7_season_10 : decode cX7_season 10 = .ok (.goto 17, 3) := by decide +kernel
theorem dX7_season_13 : decode cX7_season 13 = .ok (.iload_n 2, 1) := by decide +kernel
theorem dX7_season_14 : decode cX7_season 14 = .ok (.iconst 0, 1) := by decide +kernel
theorem dX7_season_15 : decode cX7_season 15 = .ok (.iload_n 3, 1) := by decide +kernel
theorem dX7_season_16 : decode cX7_season 16 = .ok (.invokestatic 128, 3) := by decide +kernel
theorem dX7_season_19 : decode cX7_season 19 = .ok (.ifCond .ne 7, 3) := by decide +kernel
theorem dX7_season_22 : decode cX7_season 22 = .ok (.iconst 2, 1) := by decide +kernel
theorem dX7_season_23 : decode cX7_season 23 = .ok (.goto 4, 3) := by decide +kernel
theorem dX7_season_26 : decode cX7_season 26 = .ok (.iconst 0, 1) := by decide +kernel
theorem dX7_season_27 : decode cX7_season 27 = .ok (.invokevirtual 55, 3) := by decide +kernel
theorem dX7_season_30 : decode cX7_season 30 = .ok (.ifCond .ne 5, 3) := by decide +kernel
theorem dX7_season_33 : decode cX7_season 33 = .ok (.iconst 0, 1) := by decide +kernel
theorem dX7_season_34 : decode cX7_season 34 = .ok (.ireturn, 1) := by decide +kernel
theorem dX7_season_35 : decode cX7_season 35 = .ok (.iconst 0, 1) := by decide +kernel
theorem dX7_season_36 : decode cX7_season 36 = .ok (.istore 4, 2) := by decide +kernel
theorem dX7_season_38 : decode cX7_season 38 = .ok (.iconst 0, 1) := by decide +kernel
theorem dX7_season_39 : decode cX7_season 39 = .ok (.istore 5, 2) := by decide +kernel
theorem dX7_season_41 : decode cX7_season 41 = .ok (.iload 5, 2) := by decide +kernel
theorem dX7_season_43 : decode cX7_season 43 = .ok (.sipush 365, 3) := by decide +kernel
theorem dX7_season_46 : decode cX7_season 46 = .ok (.if_icmp .ge 31, 3) := by decide +kernel
theorem dX7_season_49 : decode cX7_season 49 = .ok (.iload 4, 2) := by decide +kernel
theorem dX7_season_51 : decode cX7_season 51 = .ok (.aload_n 0, 1) := by decide +kernel
theorem dX7_season_52 : decode cX7_season 52 = .ok (.iload_n 1, 1) := by decide +kernel
theorem dX7_season_53 : decode cX7_season 53 = .ok (.iload_n 2, 1) := by decide +kernel
theorem dX7_season_54 : decode cX7_season 54 = .ok (.iload 5, 2) := by decide +kernel
theorem dX7_season_56 : decode cX7_season 56 = .ok (.iload_n 3, 1) := by decide +kernel
theorem dX7_season_57 : decode cX7_season 57 = .ok (.invokevirtual 138, 3) := by decide +kernel
theorem dX7_season_60 : decode cX7_season 60 = .ok (.ifCond .eq 7, 3) := by decide +kernel
theorem dX7_season_63 : decode cX7_season 63 = .ok (.iconst 1, 1) := by decide +kernel
theorem dX7_season_64 : decode cX7_season 64 = .ok (.goto 4, 3) := by decide +kernel
theorem dX7_season_67 : decode cX7_season 67 = .ok (.iconst 0, 1) := by decide +kernel
theorem dX7_season_68 : decode cX7_season 68 = .ok (.iadd, 1) := by decide +kernel
theorem dX7_season_69 : decode cX7_season 69 = .ok (.istore 4, 2) := by decide +kernel
theorem dX7_season_71 : decode cX7_season 71 = .ok (.iinc 5 1, 3) := by decide +kernel
theorem dX7_season_74 : decode cX7_season 74 = .ok (.goto (-33), 3) := by decide +kernel
theorem dX7_season_77 : decode cX7_season 77 = .ok (.iload 4, 2) := by decide +kernel
theorem dX7_season_79 : decode cX7_season 79 = .ok (.ireturn, 1) := by decide +kernel
theorem dX7_plan_0 : decode cX7_plan 0 = .ok (.aload_n 0, 1) := by decide +kernel
theorem dX7_plan_1 : decode cX7_plan 1 = .ok (.iload_n 1, 1) := by decide +kernel
theorem dX7_plan_2 : decode cX7_plan 2 = .ok (.invokevirtual 80, 3) := by decide +kernel
theorem dX7_plan_5 : decode cX7_plan 5 = .ok (.istore 5, 2) := by decide +kernel
theorem dX7_plan_7 : decode cX7_plan 7 = .ok (.iload_n 2, 1) := by decide +kernel
theorem dX7_plan_8 : decode cX7_plan 8 = .ok (.iload_n 3, 1) := by decide +kernel
theorem dX7_plan_9 : decode cX7_plan 9 = .ok (.iload 4, 2) := by decide +kernel
theorem dX7_plan_11 : decode cX7_plan 11 = .ok (.invokestatic 128, 3) := by decide +kernel
theorem dX7_plan_14 : decode cX7_plan 14 = .ok (.istore 6, 2) := by decide +kernel
theorem dX7_plan_16 : decode cX7_plan 16 = .ok (.iload 5, 2) := by decide +kernel
theorem dX7_plan_18 : decode cX7_plan 18 = .ok (.ifCond .eq 42, 3) := by decide +kernel
theorem dX7_plan_21 : decode cX7_plan 21 = .ok (.iload 6, 2) := by decide +kernel
theorem dX7_plan_23 : decode cX7_plan 23 = .ok (.ifCond .eq 37, 3) := by decide +kernel
theorem dX7_plan_26 : decode cX7_plan 26 = .ok (.aload_n 0, 1) := by decide +kernel
theorem dX7_plan_27 : decode cX7_plan 27 = .ok (.iload_n 1, 1) := by decide +kernel
theorem dX7_plan_28 : decode cX7_plan 28 = .ok (.iload_n 2, 1) := by decide +kernel
theorem dX7_plan_29 : decode cX7_plan 29 = .ok (.iload_n 3, 1) := by decide +kernel
theorem dX7_plan_30 : decode cX7_plan 30 = .ok (.iload 4, 2) := by decide +kernel
theorem dX7_plan_32 : decode cX7_plan 32 = .ok (.invokevirtual 138, 3) := by decide +kernel
theorem dX7_plan_35 : decode cX7_plan 35 = .ok (.ifCond .eq 25, 3) := by decide +kernel
theorem dX7_plan_38 : decode cX7_plan 38 = .ok (.aload_n 0, 1) := by decide +kernel
theorem dX7_plan_39 : decode cX7_plan 39 = .ok (.iload_n 1, 1) := by decide +kernel
theorem dX7_plan_40 : decode cX7_plan 40 = .ok (.invokevirtual 115, 3) := by decide +kernel
theorem dX7_plan_43 : decode cX7_plan 43 = .ok (.iconst (-1), 1) := by decide +kernel
theorem dX7_plan_44 : decode cX7_plan 44 = .ok (.if_icmp .eq 16, 3) := by decide +kernel
theorem dX7_plan_47 : decode cX7_plan 47 = .ok (.aload_n 0, 1) := by decide +kernel
theorem dX7_plan_48 : decode cX7_plan 48 = .ok (.getfield 144, 3) := by decide +kernel
theorem dX7_plan_51 : decode cX7_plan 51 = .ok (.bipush 12, 2) := by decide +kernel
theorem dX7_plan_53 : decode cX7_plan 53 = .ok (.if_icmp .ge 7, 3) := by decide +kernel
theorem dX7_plan_56 : decode cX7_plan 56 = .ok (.iconst 1, 1) := by decide +kernel
theorem dX7_plan_57 : decode cX7_plan 57 = .ok (.goto 4, 3) := by decide +kernel
theorem dX7_plan_60 : decode cX7_plan 60 = .ok (.iconst 0, 1) := by decide +kernel
theorem dX7_plan_61 : decode cX7_plan 61 = .ok (.istore 7, 2) := by decide +kernel
theorem dX7_plan_63 : decode cX7_plan 63 = .ok (.aload_n 0, 1) := by decide +kernel
theorem dX7_plan_64 : decode cX7_plan 64 = .ok (.iload 5, 2) := by decide +kernel
theorem dX7_plan_66 : decode cX7_plan 66 = .ok (.ifCond .ne 7, 3) := by decide +kernel
theorem dX7_plan_69 : decode cX7_plan 69 = .ok (.iconst 1, 1) := by decide +kernel
theorem dX7_plan_70 : decode cX7_plan 70 = .ok (.goto 22, 3) := by decide +kernel
theorem dX7_plan_73 : decode cX7_plan 73 = .ok (.iload 6, 2) := by decide +kernel
theorem dX7_plan_75 : decode cX7_plan 75 = .ok (.ifCond .ne 7, 3) := by decide +kernel
theorem dX7_plan_78 : decode cX7_plan 78 = .ok (.iconst 2, 1) := by decide +kernel
theorem dX7_plan_79 : decode cX7_plan 79 = .ok (.goto 13, 3) := by decide +kernel
theorem dX7_plan_82 : decode cX7_plan 82 = .ok (.iload 7, 2) := by decide +kernel
theorem dX7_plan_84 : decode cX7_plan 84 = .ok (.ifCond .ne 7, 3) := by decide +kernel
theorem dX7_plan_87 : decode cX7_plan 87 = .ok (.iconst 3, 1) := by decide +kernel
theorem dX7_plan_88 : decode cX7_plan 88 = .ok (.goto 4, 3) := by decide +kernel
theorem dX7_plan_91 : decode cX7_plan 91 = .ok (.iconst 0, 1) := by decide +kernel
theorem dX7_plan_92 : decode cX7_plan 92 = .ok (.invokevirtual 55, 3) := by decide +kernel
theorem dX7_plan_95 : decode cX7_plan 95 = .ok (.ifCond .ne 5, 3) := by decide +kernel
theorem dX7_plan_98 : decode cX7_plan 98 = .ok (.iconst 0, 1) := by decide +kernel
theorem dX7_plan_99 : decode cX7_plan 99 = .ok (.ireturn, 1) := by decide +kernel
theorem dX7_plan_100 : decode cX7_plan 100 = .ok (.aload_n 0, 1) := by decide +kernel
theorem dX7_plan_101 : decode cX7_plan 101 = .ok (.getfield 31, 3) := by decide +kernel
theorem dX7_plan_104 : decode cX7_plan 104 = .ok (.iconst 5, 1) := by decide +kernel
theorem dX7_plan_105 : decode cX7_plan 105 = .ok (.aload_n 0, 1) := by decide +kernel
theorem dX7_plan_106 : decode cX7_plan 106 = .ok (.getfield 144, 3) := by decide +kernel
theorem dX7_plan_109 : decode cX7_plan 109 = .ok (.imul, 1) := by decide +kernel
theorem dX7_plan_110 : decode cX7_plan 110 = .ok (.iload_n 1, 1) := by decide +kernel
theorem dX7_plan_111 : decode cX7_plan 111 = .ok (.iastore, 1) := by decide +kernel
theorem dX7_plan_112 : decode cX7_plan 112 = .ok (.aload_n 0, 1) := by decide +kernel
theorem dX7_plan_113 : decode cX7_plan 113 = .ok (.getfield 31, 3) := by decide +kernel
theorem dX7_plan_116 : decode cX7_plan 116 = .ok (.iconst 5, 1) := by decide +kernel
theorem dX7_plan_117 : decode cX7_plan 117 = .ok (.aload_n 0, 1) := by decide +kernel
theorem dX7_plan_118 : decode cX7_plan 118 = .ok (.getfield 144, 3) := by decide +kernel
theorem dX7_plan_121 : decode cX7_plan 121 = .ok (.imul, 1) := by decide +kernel
theorem dX7_plan_122 : decode cX7_plan 122 = .ok (.iconst 1, 1) := by decide +kernel
theorem dX7_plan_123 : decode cX7_plan 123 = .ok (.iadd, 1) := by decide +kernel
theorem dX7_plan_124 : decode cX7_plan 124 = .ok (.iload_n 2, 1) := by decide +kernel
theorem dX7_plan_125 : decode cX7_plan 125 = .ok (.iastore, 1) := by decide +kernel
theorem dX7_plan_126 : decode cX7_plan 126 = .ok (.aload_n 0, 1) := by decide +kernel
theorem dX7_plan_127 : decode cX7_plan 127 = .ok (.getfield 31, 3) := by decide +kernel
theorem dX7_plan_130 : decode cX7_plan 130 = .ok (.iconst 5, 1) := by decide +kernel
theorem dX7_plan_131 : decode cX7_plan 131 = .ok (.aload_n 0, 1) := by decide +kernel
theorem dX7_plan_132 : decode cX7_plan 132 = .ok (.getfield 144, 3) := by decide +kernel
theorem dX7_plan_135 : decode cX7_plan 135 = .ok (.imul, 1) := by decide +kernel
theorem dX7_plan_136 : decode cX7_plan 136 = .ok (.iconst 2, 1) := by decide +kernel
theorem dX7_plan_137 : decode cX7_plan 137 = .ok (.iadd, 1) := by decide +kernel
theorem dX7_plan_138 : decode cX7_plan 138 = .ok (.iload_n 3, 1) := by decide +kernel
theorem dX7_plan_139 : decode cX7_plan 139 = .ok (.iastore, 1) := by decide +kernel
theorem dX7_plan_140 : decode cX7_plan 140 = .ok (.aload_n 0, 1) := by decide +kernel
theorem dX7_plan_141 : decode cX7_plan 141 = .ok (.getfield 31, 3) := by decide +kernel
theorem dX7_plan_144 : decode cX7_plan 144 = .ok (.iconst 5, 1) := by decide +kernel
theorem dX7_plan_145 : decode cX7_plan 145 = .ok (.aload_n 0, 1) := by decide +kernel
theorem dX7_plan_146 : decode cX7_plan 146 = .ok (.getfield 144, 3) := by decide +kernel
theorem dX7_plan_149 : decode cX7_plan 149 = .ok (.imul, 1) := by decide +kernel
theorem dX7_plan_150 : decode cX7_plan 150 = .ok (.iconst 3, 1) := by decide +kernel
theorem dX7_plan_151 : decode cX7_plan 151 = .ok (.iadd, 1) := by decide +kernel
theorem dX7_plan_152 : decode cX7_plan 152 = .ok (.iload 4, 2) := by decide +kernel
theorem dX7_plan_154 : decode cX7_plan 154 = .ok (.iastore, 1) := by decide +kernel
theorem dX7_plan_155 : decode cX7_plan 155 = .ok (.aload_n 0, 1) := by decide +kernel
theorem dX7_plan_156 : decode cX7_plan 156 = .ok (.getfield 31, 3) := by decide +kernel
theorem dX7_plan_159 : decode cX7_plan 159 = .ok (.iconst 5, 1) := by decide +kernel
theorem dX7_plan_160 : decode cX7_plan 160 = .ok (.aload_n 0, 1) := by decide +kernel
theorem dX7_plan_161 : decode cX7_plan 161 = .ok (.getfield 144, 3) := by decide +kernel
theorem dX7_plan_164 : decode cX7_plan 164 = .ok (.imul, 1) := by decide +kernel
theorem dX7_plan_165 : decode cX7_plan 165 = .ok (.iconst 4, 1) := by decide +kernel
theorem dX7_plan_166 : decode cX7_plan 166 = .ok (.iadd, 1) := by decide +kernel
theorem dX7_plan_167 : decode cX7_plan 167 = .ok (.aload_n 0, 1) := by decide +kernel
theorem dX7_plan_168 : decode cX7_plan 168 = .ok (.iload_n 1, 1) := by decide +kernel
theorem dX7_plan_169 : decode cX7_plan 169 = .ok (.invokevirtual 115, 3) := by decide +kernel
theorem dX7_plan_172 : decode cX7_plan 172 = .ok (.iastore, 1) := by decide +kernel
theorem dX7_plan_173 : decode cX7_plan 173 = .ok (.aload_n 0, 1) := by decide +kernel
theorem dX7_plan_174 : decode cX7_plan 174 = .ok (.dup, 1) := by decide +kernel
theorem dX7_plan_175 : decode cX7_plan 175 = .ok (.getfield 144, 3) := by decide +kernel
theorem dX7_plan_178 : decode cX7_plan 178 = .ok (.iconst 1, 1) := by decide +kernel
theorem dX7_plan_179 : decode cX7_plan 179 = .ok (.iadd, 1) := by decide +kernel
theorem dX7_plan_180 : decode cX7_plan 180 = .ok (.putfield 144, 3) := by decide +kernel
theorem dX7_plan_183 : decode cX7_plan 183 = .ok (.aload_n 0, 1) := by decide +kernel
theorem dX7_plan_184 : decode cX7_plan 184 = .ok (.getfield 144, 3) := by decide +kernel
theorem dX7_plan_187 : decode cX7_plan 187 = .ok (.iconst 1, 1) := by decide +kernel
theorem dX7_plan_188 : decode cX7_plan 188 = .ok (.isub, 1) := by decide +kernel
theorem dX7_plan_189 : decode cX7_plan 189 = .ok (.ireturn, 1) := by decide +kernel
theorem dX7_isWrongNow_0 : decode cX7_isWrongNow 0 = .ok (.aload_n 0, 1) := by decide +kernel
theorem dX7_isWrongNow_1 : decode cX7_isWrongNow 1 = .ok (.getfield 31, 3) := by decide +kernel
theorem dX7_isWrongNow_4 : decode cX7_isWrongNow 4 = .ok (.iconst 5, 1) := by decide +kernel
theorem dX7_isWrongNow_5 : decode cX7_isWrongNow 5 = .ok (.iload_n 1, 1) := by decide +kernel
theorem dX7_isWrongNow_6 : decode cX7_isWrongNow 6 = .ok (.imul, 1) := by decide +kernel
theorem dX7_isWrongNow_7 : decode cX7_isWrongNow 7 = .ok (.iaload, 1) := by decide +kernel
theorem dX7_isWrongNow_8 : decode cX7_isWrongNow 8 = .ok (.istore_n 2, 1) := by decide +kernel
theorem dX7_isWrongNow_9 : decode cX7_isWrongNow 9 = .ok (.aload_n 0, 1) := by decide +kernel
theorem dX7_isWrongNow_10 : decode cX7_isWrongNow 10 = .ok (.iload_n 2, 1) := by decide +kernel
theorem dX7_isWrongNow_11 : decode cX7_isWrongNow 11 = .ok (.aload_n 0, 1) := by decide +kernel
theorem dX7_isWrongNow_12 : decode cX7_isWrongNow 12 = .ok (.getfield 31, 3) := by decide +kernel
theorem dX7_isWrongNow_15 : decode cX7_isWrongNow 15 = .ok (.iconst 5, 1) := by decide +kernel
theorem dX7_isWrongNow_16 : decode cX7_isWrongNow 16 = .ok (.iload_n 1, 1) := by decide +kernel
theorem dX7_isWrongNow_17 : decode cX7_isWrongNow 17 = .ok (.imul, 1) := by decide +kernel
theorem dX7_isWrongNow_18 : decode cX7_isWrongNow 18 = .ok (.iconst 1, 1) := by decide +kernel
theorem dX7_isWrongNow_19 : decode cX7_isWrongNow 19 = .ok (.iadd, 1) := by decide +kernel
theorem dX7_isWrongNow_20 : decode cX7_isWrongNow 20 = .ok (.iaload, 1) := by decide +kernel
theorem dX7_isWrongNow_21 : decode cX7_isWrongNow 21 = .ok (.aload_n 0, 1) := by decide +kernel
theorem dX7_isWrongNow_22 : decode cX7_isWrongNow 22 = .ok (.getfield 31, 3) := by decide +kernel
theorem dX7_isWrongNow_25 : decode cX7_isWrongNow 25 = .ok (.iconst 5, 1) := by decide +kernel
theorem dX7_isWrongNow_26 : decode cX7_isWrongNow 26 = .ok (.iload_n 1, 1) := by decide +kernel
theorem dX7_isWrongNow_27 : decode cX7_isWrongNow 27 = .ok (.imul, 1) := by decide +kernel
theorem dX7_isWrongNow_28 : decode cX7_isWrongNow 28 = .ok (.iconst 2, 1) := by decide +kernel
theorem dX7_isWrongNow_29 : decode cX7_isWrongNow 29 = .ok (.iadd, 1) := by decide +kernel
theorem dX7_isWrongNow_30 : decode cX7_isWrongNow 30 = .ok (.iaload, 1) := by decide +kernel
theorem dX7_isWrongNow_31 : decode cX7_isWrongNow 31 = .ok (.aload_n 0, 1) := by decide +kernel
theorem dX7_isWrongNow_32 : decode cX7_isWrongNow 32 = .ok (.getfield 31, 3) := by decide +kernel
theorem dX7_isWrongNow_35 : decode cX7_isWrongNow 35 = .ok (.iconst 5, 1) := by decide +kernel
theorem dX7_isWrongNow_36 : decode cX7_isWrongNow 36 = .ok (.iload_n 1, 1) := by decide +kernel
theorem dX7_isWrongNow_37 : decode cX7_isWrongNow 37 = .ok (.imul, 1) := by decide +kernel
theorem dX7_isWrongNow_38 : decode cX7_isWrongNow 38 = .ok (.iconst 3, 1) := by decide +kernel
theorem dX7_isWrongNow_39 : decode cX7_isWrongNow 39 = .ok (.iadd, 1) := by decide +kernel
theorem dX7_isWrongNow_40 : decode cX7_isWrongNow 40 = .ok (.iaload, 1) := by decide +kernel
theorem dX7_isWrongNow_41 : decode cX7_isWrongNow 41 = .ok (.invokevirtual 138, 3) := by decide +kernel
theorem dX7_isWrongNow_44 : decode cX7_isWrongNow 44 = .ok (.ifCond .eq 21, 3) := by decide +kernel
theorem dX7_isWrongNow_47 : decode cX7_isWrongNow 47 = .ok (.aload_n 0, 1) := by decide +kernel
theorem dX7_isWrongNow_48 : decode cX7_isWrongNow 48 = .ok (.iload_n 2, 1) := by decide +kernel
theorem dX7_isWrongNow_49 : decode cX7_isWrongNow 49 = .ok (.invokevirtual 115, 3) := by decide +kernel
theorem dX7_isWrongNow_52 : decode cX7_isWrongNow 52 = .ok (.aload_n 0, 1) := by decide +kernel
theorem dX7_isWrongNow_53 : decode cX7_isWrongNow 53 = .ok (.getfield 31, 3) := by decide +kernel
theorem dX7_isWrongNow_56 : decode cX7_isWrongNow 56 = .ok (.iconst 5, 1) := by decide +kernel
theorem dX7_isWrongNow_57 : decode cX7_isWrongNow 57 = .ok (.iload_n 1, 1) := by decide +kernel
theorem dX7_isWrongNow_58 : decode cX7_isWrongNow 58 = .ok (.imul, 1) := by decide +kernel
theorem dX7_isWrongNow_59 : decode cX7_isWrongNow 59 = .ok (.iconst 4, 1) := by decide +kernel
theorem dX7_isWrongNow_60 : decode cX7_isWrongNow 60 = .ok (.iadd, 1) := by decide +kernel
theorem dX7_isWrongNow_61 : decode cX7_isWrongNow 61 = .ok (.iaload, 1) := by decide +kernel
theorem dX7_isWrongNow_62 : decode cX7_isWrongNow 62 = .ok (.if_icmp .eq 7, 3) := by decide +kernel
theorem dX7_isWrongNow_65 : decode cX7_isWrongNow 65 = .ok (.iconst 1, 1) := by decide +kernel
theorem dX7_isWrongNow_66 : decode cX7_isWrongNow 66 = .ok (.goto 4, 3) := by decide +kernel
theorem dX7_isWrongNow_69 : decode cX7_isWrongNow 69 = .ok (.iconst 0, 1) := by decide +kernel
theorem dX7_isWrongNow_70 : decode cX7_isWrongNow 70 = .ok (.ireturn, 1) := by decide +kernel
theorem dX7_wrongNow_0 : decode cX7_wrongNow 0 = .ok (.iconst 0, 1) := by decide +kernel
theorem dX7_wrongNow_1 : decode cX7_wrongNow 1 = .ok (.istore_n 1, 1) := by decide +kernel
theorem dX7_wrongNow_2 : decode cX7_wrongNow 2 = .ok (.iconst 0, 1) := by decide +kernel
theorem dX7_wrongNow_3 : decode cX7_wrongNow 3 = .ok (.istore_n 2, 1) := by decide +kernel
theorem dX7_wrongNow_4 : decode cX7_wrongNow 4 = .ok (.iload_n 2, 1) := by decide +kernel
theorem dX7_wrongNow_5 : decode cX7_wrongNow 5 = .ok (.aload_n 0, 1) := by decide +kernel
theorem dX7_wrongNow_6 : decode cX7_wrongNow 6 = .ok (.getfield 144, 3) := by decide +kernel
theorem dX7_wrongNow_9 : decode cX7_wrongNow 9 = .ok (.if_icmp .ge 25, 3) := by decide +kernel
theorem dX7_wrongNow_12 : decode cX7_wrongNow 12 = .ok (.iload_n 1, 1) := by decide +kernel
theorem dX7_wrongNow_13 : decode cX7_wrongNow 13 = .ok (.aload_n 0, 1) := by decide +kernel
theorem dX7_wrongNow_14 : decode cX7_wrongNow 14 = .ok (.iload_n 2, 1) := by decide +kernel
theorem dX7_wrongNow_15 : decode cX7_wrongNow 15 = .ok (.invokevirtual 147, 3) := by decide +kernel
theorem dX7_wrongNow_18 : decode cX7_wrongNow 18 = .ok (.ifCond .eq 7, 3) := by decide +kernel
theorem dX7_wrongNow_21 : decode cX7_wrongNow 21 = .ok (.iconst 1, 1) := by decide +kernel
theorem dX7_wrongNow_22 : decode cX7_wrongNow 22 = .ok (.goto 4, 3) := by decide +kernel
theorem dX7_wrongNow_25 : decode cX7_wrongNow 25 = .ok (.iconst 0, 1) := by decide +kernel
theorem dX7_wrongNow_26 : decode cX7_wrongNow 26 = .ok (.iadd, 1) := by decide +kernel
theorem dX7_wrongNow_27 : decode cX7_wrongNow 27 = .ok (.istore_n 1, 1) := by decide +kernel
theorem dX7_wrongNow_28 : decode cX7_wrongNow 28 = .ok (.iinc 2 1, 3) := by decide +kernel
theorem dX7_wrongNow_31 : decode cX7_wrongNow 31 = .ok (.goto (-27), 3) := by decide +kernel
theorem dX7_wrongNow_34 : decode cX7_wrongNow 34 = .ok (.iload_n 1, 1) := by decide +kernel
theorem dX7_wrongNow_35 : decode cX7_wrongNow 35 = .ok (.ireturn, 1) := by decide +kernel
theorem dX7_isWrong_0 : decode cX7_isWrong 0 = .ok (.aload_n 0, 1) := by decide +kernel
theorem dX7_isWrong_1 : decode cX7_isWrong 1 = .ok (.iload_n 1, 1) := by decide +kernel
theorem dX7_isWrong_2 : decode cX7_isWrong 2 = .ok (.iconst 0, 1) := by decide +kernel
theorem dX7_isWrong_3 : decode cX7_isWrong 3 = .ok (.aload_n 0, 1) := by decide +kernel
theorem dX7_isWrong_4 : decode cX7_isWrong 4 = .ok (.getfield 144, 3) := by decide +kernel
theorem dX7_isWrong_7 : decode cX7_isWrong 7 = .ok (.iconst 1, 1) := by decide +kernel
theorem dX7_isWrong_8 : decode cX7_isWrong 8 = .ok (.isub, 1) := by decide +kernel
theorem dX7_isWrong_9 : decode cX7_isWrong 9 = .ok (.invokestatic 44, 3) := by decide +kernel
theorem dX7_isWrong_12 : decode cX7_isWrong 12 = .ok (.ifCond .eq 7, 3) := by decide +kernel
theorem dX7_isWrong_15 : decode cX7_isWrong 15 = .ok (.iconst 0, 1) := by decide +kernel
theorem dX7_isWrong_16 : decode cX7_isWrong 16 = .ok (.goto 4, 3) := by decide +kernel
theorem dX7_isWrong_19 : decode cX7_isWrong 19 = .ok (.iconst 1, 1) := by decide +kernel
theorem dX7_isWrong_20 : decode cX7_isWrong 20 = .ok (.invokevirtual 55, 3) := by decide +kernel
theorem dX7_isWrong_23 : decode cX7_isWrong 23 = .ok (.ifCond .eq 15, 3) := by decide +kernel
theorem dX7_isWrong_26 : decode cX7_isWrong 26 = .ok (.aload_n 0, 1) := by decide +kernel
theorem dX7_isWrong_27 : decode cX7_isWrong 27 = .ok (.iload_n 1, 1) := by decide +kernel
theorem dX7_isWrong_28 : decode cX7_isWrong 28 = .ok (.invokevirtual 147, 3) := by decide +kernel
theorem dX7_isWrong_31 : decode cX7_isWrong 31 = .ok (.ifCond .eq 7, 3) := by decide +kernel
theorem dX7_isWrong_34 : decode cX7_isWrong 34 = .ok (.iconst 1, 1) := by decide +kernel
theorem dX7_isWrong_35 : decode cX7_isWrong 35 = .ok (.goto 4, 3) := by decide +kernel
theorem dX7_isWrong_38 : decode cX7_isWrong 38 = .ok (.iconst 0, 1) := by decide +kernel
theorem dX7_isWrong_39 : decode cX7_isWrong 39 = .ok (.ireturn, 1) := by decide +kernel
theorem dX7_wrong_0 : decode cX7_wrong 0 = .ok (.aload_n 0, 1) := by decide +kernel
theorem dX7_wrong_1 : decode cX7_wrong 1 = .ok (.iconst 0, 1) := by decide +kernel
theorem dX7_wrong_2 : decode cX7_wrong 2 = .ok (.putfield 37, 3) := by decide +kernel
theorem dX7_wrong_5 : decode cX7_wrong 5 = .ok (.aload_n 0, 1) := by decide +kernel
theorem dX7_wrong_6 : decode cX7_wrong 6 = .ok (.invokevirtual 69, 3) := by decide +kernel
theorem dX7_wrong_9 : decode cX7_wrong 9 = .ok (.ireturn, 1) := by decide +kernel
theorem dJ6_compare_7cf53_0 : decode cJ6_compare_7cf53 0 = .ok (.iload_n 0, 1) := by decide +kernel
theorem dJ6_compare_7cf53_1 : decode cJ6_compare_7cf53 1 = .ok (.iload_n 1, 1) := by decide +kernel
theorem dJ6_compare_7cf53_2 : decode cJ6_compare_7cf53 2 = .ok (.if_icmp .ge 7, 3) := by decide +kernel
theorem dJ6_compare_7cf53_5 : decode cJ6_compare_7cf53 5 = .ok (.iconst (-1), 1) := by decide +kernel
theorem dJ6_compare_7cf53_6 : decode cJ6_compare_7cf53 6 = .ok (.goto 13, 3) := by decide +kernel
theorem dJ6_compare_7cf53_9 : decode cJ6_compare_7cf53 9 = .ok (.iload_n 0, 1) := by decide +kernel
theorem dJ6_compare_7cf53_10 : decode cJ6_compare_7cf53 10 = .ok (.iload_n 1, 1) := by decide +kernel
theorem dJ6_compare_7cf53_11 : decode cJ6_compare_7cf53 11 = .ok (.if_icmp .ne 7, 3) := by decide +kernel
theorem dJ6_compare_7cf53_14 : decode cJ6_compare_7cf53 14 = .ok (.iconst 0, 1) := by decide +kernel
theorem dJ6_compare_7cf53_15 : decode cJ6_compare_7cf53 15 = .ok (.goto 4, 3) := by decide +kernel
theorem dJ6_compare_7cf53_18 : decode cJ6_compare_7cf53 18 = .ok (.iconst 1, 1) := by decide +kernel
theorem dJ6_compare_7cf53_19 : decode cJ6_compare_7cf53 19 = .ok (.ireturn, 1) := by decide +kernel
theorem dJ9_floorDiv_7cf53_0 : decode cJ9_floorDiv_7cf53 0 = .ok (.iload_n 0, 1) := by decide +kernel
theorem dJ9_floorDiv_7cf53_1 : decode cJ9_floorDiv_7cf53 1 = .ok (.iload_n 1, 1) := by decide +kernel
theorem dJ9_floorDiv_7cf53_2 : decode cJ9_floorDiv_7cf53 2 = .ok (.idiv, 1) := by decide +kernel
theorem dJ9_floorDiv_7cf53_3 : decode cJ9_floorDiv_7cf53 3 = .ok (.istore_n 2, 1) := by decide +kernel
theorem dJ9_floorDiv_7cf53_4 : decode cJ9_floorDiv_7cf53 4 = .ok (.iload_n 0, 1) := by decide +kernel
theorem dJ9_floorDiv_7cf53_5 : decode cJ9_floorDiv_7cf53 5 = .ok (.iload_n 1, 1) := by decide +kernel
theorem dJ9_floorDiv_7cf53_6 : decode cJ9_floorDiv_7cf53 6 = .ok (.ixor, 1) := by decide +kernel
theorem dJ9_floorDiv_7cf53_7 : decode cJ9_floorDiv_7cf53 7 = .ok (.ifCond .ge 14, 3) := by decide +kernel
theorem dJ9_floorDiv_7cf53_10 : decode cJ9_floorDiv_7cf53 10 = .ok (.iload_n 2, 1) := by decide +kernel
theorem dJ9_floorDiv_7cf53_11 : decode cJ9_floorDiv_7cf53 11 = .ok (.iload_n 1, 1) := by decide +kernel
theorem dJ9_floorDiv_7cf53_12 : decode cJ9_floorDiv_7cf53 12 = .ok (.imul, 1) := by decide +kernel
theorem dJ9_floorDiv_7cf53_13 : decode cJ9_floorDiv_7cf53 13 = .ok (.iload_n 0, 1) := by decide +kernel
theorem dJ9_floorDiv_7cf53_14 : decode cJ9_floorDiv_7cf53 14 = .ok (.if_icmp .eq 7, 3) := by decide +kernel
theorem dJ9_floorDiv_7cf53_17 : decode cJ9_floorDiv_7cf53 17 = .ok (.iload_n 2, 1) := by decide +kernel
theorem dJ9_floorDiv_7cf53_18 : decode cJ9_floorDiv_7cf53 18 = .ok (.iconst 1, 1) := by decide +kernel
theorem dJ9_floorDiv_7cf53_19 : decode cJ9_floorDiv_7cf53 19 = .ok (.isub, 1) := by decide +kernel
theorem dJ9_floorDiv_7cf53_20 : decode cJ9_floorDiv_7cf53 20 = .ok (.ireturn, 1) := by decide +kernel
theorem dJ9_floorDiv_7cf53_21 : decode cJ9_floorDiv_7cf53 21 = .ok (.iload_n 2, 1) := by decide +kernel
theorem dJ9_floorDiv_7cf53_22 : decode cJ9_floorDiv_7cf53 22 = .ok (.ireturn, 1) := by decide +kernel
theorem dJ9_floorMod_7cf53_0 : decode cJ9_floorMod_7cf53 0 = .ok (.iload_n 0, 1) := by decide +kernel
theorem dJ9_floorMod_7cf53_1 : decode cJ9_floorMod_7cf53 1 = .ok (.iload_n 1, 1) := by decide +kernel
theorem dJ9_floorMod_7cf53_2 : decode cJ9_floorMod_7cf53 2 = .ok (.irem, 1) := by decide +kernel
theorem dJ9_floorMod_7cf53_3 : decode cJ9_floorMod_7cf53 3 = .ok (.istore_n 2, 1) := by decide +kernel
theorem dJ9_floorMod_7cf53_4 : decode cJ9_floorMod_7cf53 4 = .ok (.iload_n 0, 1) := by decide +kernel
theorem dJ9_floorMod_7cf53_5 : decode cJ9_floorMod_7cf53 5 = .ok (.iload_n 1, 1) := by decide +kernel
theorem dJ9_floorMod_7cf53_6 : decode cJ9_floorMod_7cf53 6 = .ok (.ixor, 1) := by decide +kernel
theorem dJ9_floorMod_7cf53_7 : decode cJ9_floorMod_7cf53 7 = .ok (.ifCond .ge 11, 3) := by decide +kernel
theorem dJ9_floorMod_7cf53_10 : decode cJ9_floorMod_7cf53 10 = .ok (.iload_n 2, 1) := by decide +kernel
theorem dJ9_floorMod_7cf53_11 : decode cJ9_floorMod_7cf53 11 = .ok (.ifCond .eq 7, 3) := by decide +kernel
theorem dJ9_floorMod_7cf53_14 : decode cJ9_floorMod_7cf53 14 = .ok (.iload_n 2, 1) := by decide +kernel
theorem dJ9_floorMod_7cf53_15 : decode cJ9_floorMod_7cf53 15 = .ok (.iload_n 1, 1) := by decide +kernel
theorem dJ9_floorMod_7cf53_16 : decode cJ9_floorMod_7cf53 16 = .ok (.iadd, 1) := by decide +kernel
theorem dJ9_floorMod_7cf53_17 : decode cJ9_floorMod_7cf53 17 = .ok (.ireturn, 1) := by decide +kernel
theorem dJ9_floorMod_7cf53_18 : decode cJ9_floorMod_7cf53 18 = .ok (.iload_n 2, 1) := by decide +kernel
theorem dJ9_floorMod_7cf53_19 : decode cJ9_floorMod_7cf53 19 = .ok (.ireturn, 1) := by decide +kernel
theorem dJ9_max_7cf53_0 : decode cJ9_max_7cf53 0 = .ok (.iload_n 0, 1) := by decide +kernel
theorem dJ9_max_7cf53_1 : decode cJ9_max_7cf53 1 = .ok (.iload_n 1, 1) := by decide +kernel
theorem dJ9_max_7cf53_2 : decode cJ9_max_7cf53 2 = .ok (.if_icmp .lt 7, 3) := by decide +kernel
theorem dJ9_max_7cf53_5 : decode cJ9_max_7cf53 5 = .ok (.iload_n 0, 1) := by decide +kernel
theorem dJ9_max_7cf53_6 : decode cJ9_max_7cf53 6 = .ok (.goto 4, 3) := by decide +kernel
theorem dJ9_max_7cf53_9 : decode cJ9_max_7cf53 9 = .ok (.iload_n 1, 1) := by decide +kernel
theorem dJ9_max_7cf53_10 : decode cJ9_max_7cf53 10 = .ok (.ireturn, 1) := by decide +kernel
theorem dJ9_min_7cf53_0 : decode cJ9_min_7cf53 0 = .ok (.iload_n 0, 1) := by decide +kernel
theorem dJ9_min_7cf53_1 : decode cJ9_min_7cf53 1 = .ok (.iload_n 1, 1) := by decide +kernel
theorem dJ9_min_7cf53_2 : decode cJ9_min_7cf53 2 = .ok (.if_icmp .gt 7, 3) := by decide +kernel
theorem dJ9_min_7cf53_5 : decode cJ9_min_7cf53 5 = .ok (.iload_n 0, 1) := by decide +kernel
theorem dJ9_min_7cf53_6 : decode cJ9_min_7cf53 6 = .ok (.goto 4, 3) := by decide +kernel
theorem dJ9_min_7cf53_9 : decode cJ9_min_7cf53 9 = .ok (.iload_n 1, 1) := by decide +kernel
theorem dJ9_min_7cf53_10 : decode cJ9_min_7cf53 10 = .ok (.ireturn, 1) := by decide +kernel
theorem dJ7_fill_53178_0 : decode cJ7_fill_53178 0 = .ok (.iconst 0, 1) := by decide +kernel
theorem dJ7_fill_53178_1 : decode cJ7_fill_53178 1 = .ok (.istore_n 2, 1) := by decide +kernel
theorem dJ7_fill_53178_2 : decode cJ7_fill_53178 2 = .ok (.aload_n 0, 1) := by decide +kernel
theorem dJ7_fill_53178_3 : decode cJ7_fill_53178 3 = .ok (.arraylength, 1) := by decide +kernel
theorem dJ7_fill_53178_4 : decode cJ7_fill_53178 4 = .ok (.istore_n 3, 1) := by decide +kernel
theorem dJ7_fill_53178_5 : decode cJ7_fill_53178 5 = .ok (.iload_n 2, 1) := by decide +kernel
theorem dJ7_fill_53178_6 : decode cJ7_fill_53178 6 = .ok (.iload_n 3, 1) := by decide +kernel
theorem dJ7_fill_53178_7 : decode cJ7_fill_53178 7 = .ok (.if_icmp .ge 13, 3) := by decide +kernel
theorem dJ7_fill_53178_10 : decode cJ7_fill_53178 10 = .ok (.aload_n 0, 1) := by decide +kernel
theorem dJ7_fill_53178_11 : decode cJ7_fill_53178 11 = .ok (.iload_n 2, 1) := by decide +kernel
theorem dJ7_fill_53178_12 : decode cJ7_fill_53178 12 = .ok (.iload_n 1, 1) := by decide +kernel
theorem dJ7_fill_53178_13 : decode cJ7_fill_53178 13 = .ok (.iastore, 1) := by decide +kernel
theorem dJ7_fill_53178_14 : decode cJ7_fill_53178 14 = .ok (.iinc 2 1, 3) := by decide +kernel
theorem dJ7_fill_53178_17 : decode cJ7_fill_53178 17 = .ok (.goto (-12), 3) := by decide +kernel
theorem dJ7_fill_53178_20 : decode cJ7_fill_53178 20 = .ok (.return_, 1) := by decide +kernel
theorem dL_addStar_0 : decode cL_addStar 0 = .ok (.aload_n 3, 1) := by decide +kernel
theorem dL_addStar_1 : decode cL_addStar 1 = .ok (.iconst 0, 1) := by decide +kernel
theorem dL_addStar_2 : decode cL_addStar 2 = .ok (.aload_n 0, 1) := by decide +kernel
theorem dL_addStar_3 : decode cL_addStar 3 = .ok (.iload_n 1, 1) := by decide +kernel
theorem dL_addStar_4 : decode cL_addStar 4 = .ok (.iload_n 2, 1) := by decide +kernel
theorem dL_addStar_5 : decode cL_addStar 5 = .ok (.invokevirtual 7, 3) := by decide +kernel
theorem dL_addStar_8 : decode cL_addStar 8 = .ok (.i2l, 1) := by decide +kernel
theorem dL_addStar_9 : decode cL_addStar 9 = .ok (.lastore, 1) := by decide +kernel
theorem dL_addStar_10 : decode cL_addStar 10 = .ok (.goto 11, 3) := by decide +kernel
theorem dL_addStar_13 : decode cL_addStar 13 = .ok (.astore 4, 2) := by decide +kernel
theorem dL_addStar_15 : decode cL_addStar 15 = .ok (.iconst 1, 1) := by decide +kernel
theorem dL_addStar_16 : decode cL_addStar 16 = .ok (.ireturn, 1) := by decide +kernel
theorem dL_addStar_17 : decode cL_addStar 17 = .ok (.astore 4, 2) := by decide +kernel
theorem dL_addStar_19 : decode cL_addStar 19 = .ok (.iconst 2, 1) := by decide +kernel
theorem dL_addStar_20 : decode cL_addStar 20 = .ok (.ireturn, 1) := by decide +kernel
theorem dL_addStar_21 : decode cL_addStar 21 = .ok (.iconst 0, 1) := by decide +kernel
theorem dL_addStar_22 : decode cL_addStar 22 = .ok (.ireturn, 1) := by decide +kernel
theorem dL_correct_0 : decode cL_correct 0 = .ok (.aload 4, 2) := by decide +kernel
theorem dL_correct_2 : decode cL_correct 2 = .ok (.iconst 0, 1) := by decide +kernel
theorem dL_correct_3 : decode cL_correct 3 = .ok (.aload_n 0, 1) := by decide +kernel
theorem dL_correct_4 : decode cL_correct 4 = .ok (.iload_n 1, 1) := by decide +kernel
theorem dL_correct_5 : decode cL_correct 5 = .ok (.iload_n 2, 1) := by decide +kernel
theorem dL_correct_6 : decode cL_correct 6 = .ok (.iload_n 3, 1) := by decide +kernel
theorem dL_correct_7 : decode cL_correct 7 = .ok (.invokevirtual 17, 3) := by decide +kernel
theorem dL_correct_10 : decode cL_correct 10 = .ok (.i2l, 1) := by decide +kernel
theorem dL_correct_11 : decode cL_correct 11 = .ok (.lastore, 1) := by decide +kernel
theorem dL_correct_12 : decode cL_correct 12 = .ok (.goto 11, 3) := by decide +kernel
theorem dL_correct_15 : decode cL_correct 15 = .ok (.astore 5, 2) := by decide +kernel
theorem dL_correct_17 : decode cL_correct 17 = .ok (.iconst 1, 1) := by decide +kernel
theorem dL_correct_18 : decode cL_correct 18 = .ok (.ireturn, 1) := by decide +kernel
theorem dL_correct_19 : decode cL_correct 19 = .ok (.astore 5, 2) := by decide +kernel
theorem dL_correct_21 : decode cL_correct 21 = .ok (.iconst 2, 1) := by decide +kernel
theorem dL_correct_22 : decode cL_correct 22 = .ok (.ireturn, 1) := by decide +kernel
theorem dL_correct_23 : decode cL_correct 23 = .ok (.iconst 0, 1) := by decide +kernel
theorem dL_correct_24 : decode cL_correct 24 = .ok (.ireturn, 1) := by decide +kernel
theorem dL_addFigure_0 : decode cL_addFigure 0 = .ok (.aload_n 1, 1) := by decide +kernel
theorem dL_addFigure_1 : decode cL_addFigure 1 = .ok (.iconst 0, 1) := by decide +kernel
theorem dL_addFigure_2 : decode cL_addFigure 2 = .ok (.aload_n 0, 1) := by decide +kernel
theorem dL_addFigure_3 : decode cL_addFigure 3 = .ok (.invokevirtual 23, 3) := by decide +kernel
theorem dL_addFigure_6 : decode cL_addFigure 6 = .ok (.i2l, 1) := by decide +kernel
theorem dL_addFigure_7 : decode cL_addFigure 7 = .ok (.lastore, 1) := by decide +kernel
theorem dL_addFigure_8 : decode cL_addFigure 8 = .ok (.goto 6, 3) := by decide +kernel
theorem dL_addFigure_11 : decode cL_addFigure 11 = .ok (.astore_n 2, 1) := by decide +kernel
theorem dL_addFigure_12 : decode cL_addFigure 12 = .ok (.iconst 1, 1) := by decide +kernel
theorem dL_addFigure_13 : decode cL_addFigure 13 = .ok (.ireturn, 1) := by decide +kernel
theorem dL_addFigure_14 : decode cL_addFigure 14 = .ok (.iconst 0, 1) := by decide +kernel
theorem dL_addFigure_15 : decode cL_addFigure 15 = .ok (.ireturn, 1) := by decide +kernel
theorem dL_draw_0 : decode cL_draw 0 = .ok (.aload 4, 2) := by decide +kernel
theorem dL_draw_2 : decode cL_draw 2 = .ok (.iconst 0, 1) := by decide +kernel
theorem dL_draw_3 : decode cL_draw 3 = .ok (.aload_n 0, 1) := by decide +kernel
theorem dL_draw_4 : decode cL_draw 4 = .ok (.iload_n 1, 1) := by decide +kernel
theorem dL_draw_5 : decode cL_draw 5 = .ok (.iload_n 2, 1) := by decide +kernel
theorem dL_draw_6 : decode cL_draw 6 = .ok (.iload_n 3, 1) := by decide +kernel
theorem dL_draw_7 : decode cL_draw 7 = .ok (.invokevirtual 27, 3) := by decide +kernel
theorem dL_draw_10 : decode cL_draw 10 = .ok (.i2l, 1) := by decide +kernel
theorem dL_draw_11 : decode cL_draw 11 = .ok (.lastore, 1) := by decide +kernel
theorem dL_draw_12 : decode cL_draw 12 = .ok (.goto 15, 3) := by decide +kernel
theorem dL_draw_15 : decode cL_draw 15 = .ok (.astore 5, 2) := by decide +kernel
theorem dL_draw_17 : decode cL_draw 17 = .ok (.iconst 1, 1) := by decide +kernel
theorem dL_draw_18 : decode cL_draw 18 = .ok (.ireturn, 1) := by decide +kernel
theorem dL_draw_19 : decode cL_draw 19 = .ok (.astore 5, 2) := by decide +kernel
theorem dL_draw_21 : decode cL_draw 21 = .ok (.iconst 2, 1) := by decide +kernel
theorem dL_draw_22 : decode cL_draw 22 = .ok (.ireturn, 1) := by decide +kernel
theorem dL_draw_23 : decode cL_draw 23 = .ok (.astore 5, 2) := by decide +kernel
theorem dL_draw_25 : decode cL_draw 25 = .ok (.iconst 3, 1) := by decide +kernel
theorem dL_draw_26 : decode cL_draw 26 = .ok (.ireturn, 1) := by decide +kernel
theorem dL_draw_27 : decode cL_draw 27 = .ok (.iconst 0, 1) := by decide +kernel
theorem dL_draw_28 : decode cL_draw 28 = .ok (.ireturn, 1) := by decide +kernel
theorem dL_erase_0 : decode cL_erase 0 = .ok (.aload_n 3, 1) := by decide +kernel
theorem dL_erase_1 : decode cL_erase 1 = .ok (.iconst 0, 1) := by decide +kernel
theorem dL_erase_2 : decode cL_erase 2 = .ok (.aload_n 0, 1) := by decide +kernel
theorem dL_erase_3 : decode cL_erase 3 = .ok (.iload_n 1, 1) := by decide +kernel
theorem dL_erase_4 : decode cL_erase 4 = .ok (.iload_n 2, 1) := by decide +kernel
theorem dL_erase_5 : decode cL_erase 5 = .ok (.invokevirtual 30, 3) := by decide +kernel
theorem dL_erase_8 : decode cL_erase 8 = .ok (.i2l, 1) := by decide +kernel
theorem dL_erase_9 : decode cL_erase 9 = .ok (.lastore, 1) := by decide +kernel
theorem dL_erase_10 : decode cL_erase 10 = .ok (.goto 7, 3) := by decide +kernel
theorem dL_erase_13 : decode cL_erase 13 = .ok (.astore 4, 2) := by decide +kernel
theorem dL_erase_15 : decode cL_erase 15 = .ok (.iconst 1, 1) := by decide +kernel
theorem dL_erase_16 : decode cL_erase 16 = .ok (.ireturn, 1) := by decide +kernel
theorem dL_erase_17 : decode cL_erase 17 = .ok (.iconst 0, 1) := by decide +kernel
theorem dL_erase_18 : decode cL_erase 18 = .ok (.ireturn, 1) := by decide +kernel
theorem dL_undo_0 : decode cL_undo 0 = .ok (.aload_n 1, 1) := by decide +kernel
theorem dL_undo_1 : decode cL_undo 1 = .ok (.iconst 0, 1) := by decide +kernel
theorem dL_undo_2 : decode cL_undo 2 = .ok (.aload_n 0, 1) := by decide +kernel
theorem dL_undo_3 : decode cL_undo 3 = .ok (.invokevirtual 33, 3) := by decide +kernel
theorem dL_undo_6 : decode cL_undo 6 = .ok (.i2l, 1) := by decide +kernel
theorem dL_undo_7 : decode cL_undo 7 = .ok (.lastore, 1) := by decide +kernel
theorem dL_undo_8 : decode cL_undo 8 = .ok (.goto 6, 3) := by decide +kernel
theorem dL_undo_11 : decode cL_undo 11 = .ok (.astore_n 2, 1) := by decide +kernel
theorem dL_undo_12 : decode cL_undo 12 = .ok (.iconst 1, 1) := by decide +kernel
theorem dL_undo_13 : decode cL_undo 13 = .ok (.ireturn, 1) := by decide +kernel
theorem dL_undo_14 : decode cL_undo 14 = .ok (.iconst 0, 1) := by decide +kernel
theorem dL_undo_15 : decode cL_undo 15 = .ok (.ireturn, 1) := by decide +kernel
theorem dL_lines_0 : decode cL_lines 0 = .ok (.aload_n 2, 1) := by decide +kernel
theorem dL_lines_1 : decode cL_lines 1 = .ok (.iconst 0, 1) := by decide +kernel
theorem dL_lines_2 : decode cL_lines 2 = .ok (.aload_n 0, 1) := by decide +kernel
theorem dL_lines_3 : decode cL_lines 3 = .ok (.iload_n 1, 1) := by decide +kernel
theorem dL_lines_4 : decode cL_lines 4 = .ok (.invokevirtual 36, 3) := by decide +kernel
theorem dL_lines_7 : decode cL_lines 7 = .ok (.i2l, 1) := by decide +kernel
theorem dL_lines_8 : decode cL_lines 8 = .ok (.lastore, 1) := by decide +kernel
theorem dL_lines_9 : decode cL_lines 9 = .ok (.goto 6, 3) := by decide +kernel
theorem dL_lines_12 : decode cL_lines 12 = .ok (.astore_n 3, 1) := by decide +kernel
theorem dL_lines_13 : decode cL_lines 13 = .ok (.iconst 1, 1) := by decide +kernel
theorem dL_lines_14 : decode cL_lines 14 = .ok (.ireturn, 1) := by decide +kernel
theorem dL_lines_15 : decode cL_lines 15 = .ok (.iconst 0, 1) := by decide +kernel
theorem dL_lines_16 : decode cL_lines 16 = .ok (.ireturn, 1) := by decide +kernel
theorem dL_placeOf_0 : decode cL_placeOf 0 = .ok (.aload_n 2, 1) := by decide +kernel
theorem dL_placeOf_1 : decode cL_placeOf 1 = .ok (.iconst 0, 1) := by decide +kernel
theorem dL_placeOf_2 : decode cL_placeOf 2 = .ok (.aload_n 0, 1) := by decide +kernel
theorem dL_placeOf_3 : decode cL_placeOf 3 = .ok (.iload_n 1, 1) := by decide +kernel
theorem dL_placeOf_4 : decode cL_placeOf 4 = .ok (.invokevirtual 40, 3) := by decide +kernel
theorem dL_placeOf_7 : decode cL_placeOf 7 = .ok (.i2l, 1) := by decide +kernel
theorem dL_placeOf_8 : decode cL_placeOf 8 = .ok (.lastore, 1) := by decide +kernel
theorem dL_placeOf_9 : decode cL_placeOf 9 = .ok (.goto 6, 3) := by decide +kernel
theorem dL_placeOf_12 : decode cL_placeOf 12 = .ok (.astore_n 3, 1) := by decide +kernel
theorem dL_placeOf_13 : decode cL_placeOf 13 = .ok (.iconst 1, 1) := by decide +kernel
theorem dL_placeOf_14 : decode cL_placeOf 14 = .ok (.ireturn, 1) := by decide +kernel
theorem dL_placeOf_15 : decode cL_placeOf 15 = .ok (.iconst 0, 1) := by decide +kernel
theorem dL_placeOf_16 : decode cL_placeOf 16 = .ok (.ireturn, 1) := by decide +kernel
theorem dL_figureOf_0 : decode cL_figureOf 0 = .ok (.aload_n 2, 1) := by decide +kernel
theorem dL_figureOf_1 : decode cL_figureOf 1 = .ok (.iconst 0, 1) := by decide +kernel
theorem dL_figureOf_2 : decode cL_figureOf 2 = .ok (.aload_n 0, 1) := by decide +kernel
theorem dL_figureOf_3 : decode cL_figureOf 3 = .ok (.iload_n 1, 1) := by decide +kernel
theorem dL_figureOf_4 : decode cL_figureOf 4 = .ok (.invokevirtual 43, 3) := by decide +kernel
theorem dL_figureOf_7 : decode cL_figureOf 7 = .ok (.i2l, 1) := by decide +kernel
theorem dL_figureOf_8 : decode cL_figureOf 8 = .ok (.lastore, 1) := by decide +kernel
theorem dL_figureOf_9 : decode cL_figureOf 9 = .ok (.goto 6, 3) := by decide +kernel
theorem dL_figureOf_12 : decode cL_figureOf 12 = .ok (.astore_n 3, 1) := by decide +kernel
theorem dL_figureOf_13 : decode cL_figureOf 13 = .ok (.iconst 1, 1) := by decide +kernel
theorem dL_figureOf_14 : decode cL_figureOf 14 = .ok (.ireturn, 1) := by decide +kernel
theorem dL_figureOf_15 : decode cL_figureOf 15 = .ok (.iconst 0, 1) := by decide +kernel
theorem dL_figureOf_16 : decode cL_figureOf 16 = .ok (.ireturn, 1) := by decide +kernel
theorem dL_crossings_0 : decode cL_crossings 0 = .ok (.aload_n 3, 1) := by decide +kernel
theorem dL_crossings_1 : decode cL_crossings 1 = .ok (.iconst 0, 1) := by decide +kernel
theorem dL_crossings_2 : decode cL_crossings 2 = .ok (.aload_n 0, 1) := by decide +kernel
theorem dL_crossings_3 : decode cL_crossings 3 = .ok (.iload_n 1, 1) := by decide +kernel
theorem dL_crossings_4 : decode cL_crossings 4 = .ok (.iload_n 2, 1) := by decide +kernel
theorem dL_crossings_5 : decode cL_crossings 5 = .ok (.invokevirtual 46, 3) := by decide +kernel
theorem dL_crossings_8 : decode cL_crossings 8 = .ok (.i2l, 1) := by decide +kernel
theorem dL_crossings_9 : decode cL_crossings 9 = .ok (.lastore, 1) := by decide +kernel
theorem dL_crossings_10 : decode cL_crossings 10 = .ok (.goto 7, 3) := by decide +kernel
theorem dL_crossings_13 : decode cL_crossings 13 = .ok (.astore 4, 2) := by decide +kernel
theorem dL_crossings_15 : decode cL_crossings 15 = .ok (.iconst 1, 1) := by decide +kernel
theorem dL_crossings_16 : decode cL_crossings 16 = .ok (.ireturn, 1) := by decide +kernel
theorem dL_crossings_17 : decode cL_crossings 17 = .ok (.iconst 0, 1) := by decide +kernel
theorem dL_crossings_18 : decode cL_crossings 18 = .ok (.ireturn, 1) := by decide +kernel
theorem dL_vote_0 : decode cL_vote 0 = .ok (.aload 4, 2) := by decide +kernel
theorem dL_vote_2 : decode cL_vote 2 = .ok (.iconst 0, 1) := by decide +kernel
theorem dL_vote_3 : decode cL_vote 3 = .ok (.aload_n 0, 1) := by decide +kernel
theorem dL_vote_4 : decode cL_vote 4 = .ok (.iload_n 1, 1) := by decide +kernel
theorem dL_vote_5 : decode cL_vote 5 = .ok (.iload_n 2, 1) := by decide +kernel
theorem dL_vote_6 : decode cL_vote 6 = .ok (.iload_n 3, 1) := by decide +kernel
theorem dL_vote_7 : decode cL_vote 7 = .ok (.invokevirtual 49, 3) := by decide +kernel
theorem dL_vote_10 : decode cL_vote 10 = .ok (.i2l, 1) := by decide +kernel
theorem dL_vote_11 : decode cL_vote 11 = .ok (.lastore, 1) := by decide +kernel
theorem dL_vote_12 : decode cL_vote 12 = .ok (.goto 11, 3) := by decide +kernel
theorem dL_vote_15 : decode cL_vote 15 = .ok (.astore 5, 2) := by decide +kernel
end
section
theorem dL_vote_17 : decode cL_vote 17 = .ok (.iconst 1, 1) := by decide +kernel
theorem dL_vote_18 : decode cL_vote 18 = .ok (.ireturn, 1) := by decide +kernel
theorem dL_vote_19 : decode cL_vote 19 = .ok (.astore 5, 2) := by decide +kernel
theorem dL_vote_21 : decode cL_vote 21 = .ok (.iconst 2, 1) := by decide +kernel
theorem dL_vote_22 : decode cL_vote 22 = .ok (.ireturn, 1) := by decide +kernel
theorem dL_vote_23 : decode cL_vote 23 = .ok (.iconst 0, 1) := by decide +kernel
theorem dL_vote_24 : decode cL_vote 24 = .ok (.ireturn, 1) := by decide +kernel
theorem dL_votes_0 : decode cL_votes 0 = .ok (.aload_n 3, 1) := by decide +kernel
theorem dL_votes_1 : decode cL_votes 1 = .ok (.iconst 0, 1) := by decide +kernel
theorem dL_votes_2 : decode cL_votes 2 = .ok (.aload_n 0, 1) := by decide +kernel
theorem dL_votes_3 : decode cL_votes 3 = .ok (.iload_n 1, 1) := by decide +kernel
theorem dL_votes_4 : decode cL_votes 4 = .ok (.iload_n 2, 1) := by decide +kernel
theorem dL_votes_5 : decode cL_votes 5 = .ok (.invokevirtual 52, 3) := by decide +kernel
theorem dL_votes_8 : decode cL_votes 8 = .ok (.i2l, 1) := by decide +kernel
theorem dL_votes_9 : decode cL_votes 9 = .ok (.lastore, 1) := by decide +kernel
theorem dL_votes_10 : decode cL_votes 10 = .ok (.goto 11, 3) := by decide +kernel
theorem dL_votes_13 : decode cL_votes 13 = .ok (.astore 4, 2) := by decide +kernel
theorem dL_votes_15 : decode cL_votes 15 = .ok (.iconst 1, 1) := by decide +kernel
theorem dL_votes_16 : decode cL_votes 16 = .ok (.ireturn, 1) := by decide +kernel
theorem dL_votes_17 : decode cL_votes 17 = .ok (.astore 4, 2) := by decide +kernel
theorem dL_votes_19 : decode cL_votes 19 = .ok (.iconst 2, 1) := by decide +kernel
theorem dL_votes_20 : decode cL_votes 20 = .ok (.ireturn, 1) := by decide +kernel
theorem dL_votes_21 : decode cL_votes 21 = .ok (.iconst 0, 1) := by decide +kernel
theorem dL_votes_22 : decode cL_votes 22 = .ok (.ireturn, 1) := by decide +kernel
theorem dL_nameOf_0 : decode cL_nameOf 0 = .ok (.aload_n 2, 1) := by decide +kernel
theorem dL_nameOf_1 : decode cL_nameOf 1 = .ok (.iconst 0, 1) := by decide +kernel
theorem dL_nameOf_2 : decode cL_nameOf 2 = .ok (.aload_n 0, 1) := by decide +kernel
theorem dL_nameOf_3 : decode cL_nameOf 3 = .ok (.iload_n 1, 1) := by decide +kernel
theorem dL_nameOf_4 : decode cL_nameOf 4 = .ok (.invokevirtual 55, 3) := by decide +kernel
theorem dL_nameOf_7 : decode cL_nameOf 7 = .ok (.i2l, 1) := by decide +kernel
theorem dL_nameOf_8 : decode cL_nameOf 8 = .ok (.lastore, 1) := by decide +kernel
theorem dL_nameOf_9 : decode cL_nameOf 9 = .ok (.goto 6, 3) := by decide +kernel
theorem dL_nameOf_12 : decode cL_nameOf 12 = .ok (.astore_n 3, 1) := by decide +kernel
theorem dL_nameOf_13 : decode cL_nameOf 13 = .ok (.iconst 1, 1) := by decide +kernel
theorem dL_nameOf_14 : decode cL_nameOf 14 = .ok (.ireturn, 1) := by decide +kernel
theorem dL_nameOf_15 : decode cL_nameOf 15 = .ok (.iconst 0, 1) := by decide +kernel
theorem dL_nameOf_16 : decode cL_nameOf 16 = .ok (.ireturn, 1) := by decide +kernel
theorem dL_height_0 : decode cL_height 0 = .ok (.aload 5, 2) := by decide +kernel
theorem dL_height_2 : decode cL_height 2 = .ok (.iconst 0, 1) := by decide +kernel
theorem dL_height_3 : decode cL_height 3 = .ok (.aload_n 0, 1) := by decide +kernel
theorem dL_height_4 : decode cL_height 4 = .ok (.iload_n 1, 1) := by decide +kernel
theorem dL_height_5 : decode cL_height 5 = .ok (.iload_n 2, 1) := by decide +kernel
theorem dL_height_6 : decode cL_height 6 = .ok (.iload_n 3, 1) := by decide +kernel
theorem dL_height_7 : decode cL_height 7 = .ok (.iload 4, 2) := by decide +kernel
theorem dL_height_9 : decode cL_height 9 = .ok (.invokevirtual 58, 3) := by decide +kernel
theorem dL_height_12 : decode cL_height 12 = .ok (.i2l, 1) := by decide +kernel
theorem dL_height_13 : decode cL_height 13 = .ok (.lastore, 1) := by decide +kernel
theorem dL_height_14 : decode cL_height 14 = .ok (.goto 11, 3) := by decide +kernel
theorem dL_height_17 : decode cL_height 17 = .ok (.astore 6, 2) := by decide +kernel
theorem dL_height_19 : decode cL_height 19 = .ok (.iconst 1, 1) := by decide +kernel
theorem dL_height_20 : decode cL_height 20 = .ok (.ireturn, 1) := by decide +kernel
theorem dL_height_21 : decode cL_height 21 = .ok (.astore 6, 2) := by decide +kernel
theorem dL_height_23 : decode cL_height 23 = .ok (.iconst 2, 1) := by decide +kernel
theorem dL_height_24 : decode cL_height 24 = .ok (.ireturn, 1) := by decide +kernel
theorem dL_height_25 : decode cL_height 25 = .ok (.iconst 0, 1) := by decide +kernel
theorem dL_height_26 : decode cL_height 26 = .ok (.ireturn, 1) := by decide +kernel
theorem dL_isUp_0 : decode cL_isUp 0 = .ok (.aload 5, 2) := by decide +kernel
theorem dL_isUp_2 : decode cL_isUp 2 = .ok (.iconst 0, 1) := by decide +kernel
theorem dL_isUp_3 : decode cL_isUp 3 = .ok (.aload_n 0, 1) := by decide +kernel
theorem dL_isUp_4 : decode cL_isUp 4 = .ok (.iload_n 1, 1) := by decide +kernel
theorem dL_isUp_5 : decode cL_isUp 5 = .ok (.iload_n 2, 1) := by decide +kernel
theorem dL_isUp_6 : decode cL_isUp 6 = .ok (.iload_n 3, 1) := by decide +kernel
theorem dL_isUp_7 : decode cL_isUp 7 = .ok (.iload 4, 2) := by decide +kernel
theorem dL_isUp_9 : decode cL_isUp 9 = .ok (.invokevirtual 62, 3) := by decide +kernel
theorem dL_isUp_12 : decode cL_isUp 12 = .ok (.ifCond .eq 7, 3) := by decide +kernel
theorem dL_isUp_15 : decode cL_isUp 15 = .ok (.lconst 1, 1) := by decide +kernel
theorem dL_isUp_16 : decode cL_isUp 16 = .ok (.goto 4, 3) := by decide +kernel
theorem dL_isUp_19 : decode cL_isUp 19 = .ok (.lconst 0, 1) := by decide +kernel
theorem dL_isUp_20 : decode cL_isUp 20 = .ok (.lastore, 1) := by decide +kernel
theorem dL_isUp_21 : decode cL_isUp 21 = .ok (.goto 11, 3) := by decide +kernel
theorem dL_isUp_24 : decode cL_isUp 24 = .ok (.astore 6, 2) := by decide +kernel
theorem dL_isUp_26 : decode cL_isUp 26 = .ok (.iconst 1, 1) := by decide +kernel
theorem dL_isUp_27 : decode cL_isUp 27 = .ok (.ireturn, 1) := by decide +kernel
theorem dL_isUp_28 : decode cL_isUp 28 = .ok (.astore 6, 2) := by decide +kernel
theorem dL_isUp_30 : decode cL_isUp 30 = .ok (.iconst 2, 1) := by decide +kernel
theorem dL_isUp_31 : decode cL_isUp 31 = .ok (.ireturn, 1) := by decide +kernel
theorem dL_isUp_32 : decode cL_isUp 32 = .ok (.iconst 0, 1) := by decide +kernel
theorem dL_isUp_33 : decode cL_isUp 33 = .ok (.ireturn, 1) := by decide +kernel
theorem dL_hours_0 : decode cL_hours 0 = .ok (.aload 4, 2) := by decide +kernel
theorem dL_hours_2 : decode cL_hours 2 = .ok (.iconst 0, 1) := by decide +kernel
theorem dL_hours_3 : decode cL_hours 3 = .ok (.aload_n 0, 1) := by decide +kernel
theorem dL_hours_4 : decode cL_hours 4 = .ok (.iload_n 1, 1) := by decide +kernel
theorem dL_hours_5 : decode cL_hours 5 = .ok (.iload_n 2, 1) := by decide +kernel
theorem dL_hours_6 : decode cL_hours 6 = .ok (.iload_n 3, 1) := by decide +kernel
theorem dL_hours_7 : decode cL_hours 7 = .ok (.invokevirtual 66, 3) := by decide +kernel
theorem dL_hours_10 : decode cL_hours 10 = .ok (.i2l, 1) := by decide +kernel
theorem dL_hours_11 : decode cL_hours 11 = .ok (.lastore, 1) := by decide +kernel
theorem dL_hours_12 : decode cL_hours 12 = .ok (.goto 11, 3) := by decide +kernel
theorem dL_hours_15 : decode cL_hours 15 = .ok (.astore 5, 2) := by decide +kernel
theorem dL_hours_17 : decode cL_hours 17 = .ok (.iconst 1, 1) := by decide +kernel
theorem dL_hours_18 : decode cL_hours 18 = .ok (.ireturn, 1) := by decide +kernel
theorem dL_hours_19 : decode cL_hours 19 = .ok (.astore 5, 2) := by decide +kernel
theorem dL_hours_21 : decode cL_hours 21 = .ok (.iconst 2, 1) := by decide +kernel
theorem dL_hours_22 : decode cL_hours 22 = .ok (.ireturn, 1) := by decide +kernel
theorem dL_hours_23 : decode cL_hours 23 = .ok (.iconst 0, 1) := by decide +kernel
theorem dL_hours_24 : decode cL_hours 24 = .ok (.ireturn, 1) := by decide +kernel
theorem dL_hoursByStars_0 : decode cL_hoursByStars 0 = .ok (.aload 4, 2) := by decide +kernel
theorem dL_hoursByStars_2 : decode cL_hoursByStars 2 = .ok (.iconst 0, 1) := by decide +kernel
theorem dL_hoursByStars_3 : decode cL_hoursByStars 3 = .ok (.aload_n 0, 1) := by decide +kernel
theorem dL_hoursByStars_4 : decode cL_hoursByStars 4 = .ok (.iload_n 1, 1) := by decide +kernel
theorem dL_hoursByStars_5 : decode cL_hoursByStars 5 = .ok (.iload_n 2, 1) := by decide +kernel
theorem dL_hoursByStars_6 : decode cL_hoursByStars 6 = .ok (.iload_n 3, 1) := by decide +kernel
theorem dL_hoursByStars_7 : decode cL_hoursByStars 7 = .ok (.invokevirtual 69, 3) := by decide +kernel
theorem dL_hoursByStars_10 : decode cL_hoursByStars 10 = .ok (.i2l, 1) := by decide +kernel
theorem dL_hoursByStars_11 : decode cL_hoursByStars 11 = .ok (.lastore, 1) := by decide +kernel
theorem dL_hoursByStars_12 : decode cL_hoursByStars 12 = .ok (.goto 11, 3) := by decide +kernel
theorem dL_hoursByStars_15 : decode cL_hoursByStars 15 = .ok (.astore 5, 2) := by decide +kernel
theorem dL_hoursByStars_17 : decode cL_hoursByStars 17 = .ok (.iconst 1, 1) := by decide +kernel
theorem dL_hoursByStars_18 : decode cL_hoursByStars 18 = .ok (.ireturn, 1) := by decide +kernel
theorem dL_hoursByStars_19 : decode cL_hoursByStars 19 = .ok (.astore 5, 2) := by decide +kernel
theorem dL_hoursByStars_21 : decode cL_hoursByStars 21 = .ok (.iconst 2, 1) := by decide +kernel
theorem dL_hoursByStars_22 : decode cL_hoursByStars 22 = .ok (.ireturn, 1) := by decide +kernel
theorem dL_hoursByStars_23 : decode cL_hoursByStars 23 = .ok (.iconst 0, 1) := by decide +kernel
theorem dL_hoursByStars_24 : decode cL_hoursByStars 24 = .ok (.ireturn, 1) := by decide +kernel
theorem dL_bestHour_0 : decode cL_bestHour 0 = .ok (.aload 4, 2) := by decide +kernel
theorem dL_bestHour_2 : decode cL_bestHour 2 = .ok (.iconst 0, 1) := by decide +kernel
theorem dL_bestHour_3 : decode cL_bestHour 3 = .ok (.aload_n 0, 1) := by decide +kernel
theorem dL_bestHour_4 : decode cL_bestHour 4 = .ok (.iload_n 1, 1) := by decide +kernel
theorem dL_bestHour_5 : decode cL_bestHour 5 = .ok (.iload_n 2, 1) := by decide +kernel
theorem dL_bestHour_6 : decode cL_bestHour 6 = .ok (.iload_n 3, 1) := by decide +kernel
theorem dL_bestHour_7 : decode cL_bestHour 7 = .ok (.invokevirtual 72, 3) := by decide +kernel
theorem dL_bestHour_10 : decode cL_bestHour 10 = .ok (.i2l, 1) := by decide +kernel
theorem dL_bestHour_11 : decode cL_bestHour 11 = .ok (.lastore, 1) := by decide +kernel
theorem dL_bestHour_12 : decode cL_bestHour 12 = .ok (.goto 11, 3) := by decide +kernel
theorem dL_bestHour_15 : decode cL_bestHour 15 = .ok (.astore 5, 2) := by decide +kernel
theorem dL_bestHour_17 : decode cL_bestHour 17 = .ok (.iconst 1, 1) := by decide +kernel
theorem dL_bestHour_18 : decode cL_bestHour 18 = .ok (.ireturn, 1) := by decide +kernel
theorem dL_bestHour_19 : decode cL_bestHour 19 = .ok (.astore 5, 2) := by decide +kernel
theorem dL_bestHour_21 : decode cL_bestHour 21 = .ok (.iconst 2, 1) := by decide +kernel
theorem dL_bestHour_22 : decode cL_bestHour 22 = .ok (.ireturn, 1) := by decide +kernel
theorem dL_bestHour_23 : decode cL_bestHour 23 = .ok (.iconst 0, 1) := by decide +kernel
theorem dL_bestHour_24 : decode cL_bestHour 24 = .ok (.ireturn, 1) := by decide +kernel
theorem dL_season_0 : decode cL_season 0 = .ok (.aload 4, 2) := by decide +kernel
theorem dL_season_2 : decode cL_season 2 = .ok (.iconst 0, 1) := by decide +kernel
theorem dL_season_3 : decode cL_season 3 = .ok (.aload_n 0, 1) := by decide +kernel
theorem dL_season_4 : decode cL_season 4 = .ok (.iload_n 1, 1) := by decide +kernel
theorem dL_season_5 : decode cL_season 5 = .ok (.iload_n 2, 1) := by decide +kernel
theorem dL_season_6 : decode cL_season 6 = .ok (.iload_n 3, 1) := by decide +kernel
theorem dL_season_7 : decode cL_season 7 = .ok (.invokevirtual 75, 3) := by decide +kernel
theorem dL_season_10 : decode cL_season 10 = .ok (.i2l, 1) := by decide +kernel
theorem dL_season_11 : decode cL_season 11 = .ok (.lastore, 1) := by decide +kernel
theorem dL_season_12 : decode cL_season 12 = .ok (.goto 11, 3) := by decide +kernel
theorem dL_season_15 : decode cL_season 15 = .ok (.astore 5, 2) := by decide +kernel
theorem dL_season_17 : decode cL_season 17 = .ok (.iconst 1, 1) := by decide +kernel
theorem dL_season_18 : decode cL_season 18 = .ok (.ireturn, 1) := by decide +kernel
theorem dL_season_19 : decode cL_season 19 = .ok (.astore 5, 2) := by decide +kernel
theorem dL_season_21 : decode cL_season 21 = .ok (.iconst 2, 1) := by decide +kernel
theorem dL_season_22 : decode cL_season 22 = .ok (.ireturn, 1) := by decide +kernel
theorem dL_season_23 : decode cL_season 23 = .ok (.iconst 0, 1) := by decide +kernel
theorem dL_season_24 : decode cL_season 24 = .ok (.ireturn, 1) := by decide +kernel
theorem dL_plan_0 : decode cL_plan 0 = .ok (.aload 5, 2) := by decide +kernel
theorem dL_plan_2 : decode cL_plan 2 = .ok (.iconst 0, 1) := by decide +kernel
theorem dL_plan_3 : decode cL_plan 3 = .ok (.aload_n 0, 1) := by decide +kernel
theorem dL_plan_4 : decode cL_plan 4 = .ok (.iload_n 1, 1) := by decide +kernel
theorem dL_plan_5 : decode cL_plan 5 = .ok (.iload_n 2, 1) := by decide +kernel
theorem dL_plan_6 : decode cL_plan 6 = .ok (.iload_n 3, 1) := by decide +kernel
theorem dL_plan_7 : decode cL_plan 7 = .ok (.iload 4, 2) := by decide +kernel
theorem dL_plan_9 : decode cL_plan 9 = .ok (.invokevirtual 78, 3) := by decide +kernel
theorem dL_plan_12 : decode cL_plan 12 = .ok (.i2l, 1) := by decide +kernel
theorem dL_plan_13 : decode cL_plan 13 = .ok (.lastore, 1) := by decide +kernel
theorem dL_plan_14 : decode cL_plan 14 = .ok (.goto 15, 3) := by decide +kernel
theorem dL_plan_17 : decode cL_plan 17 = .ok (.astore 6, 2) := by decide +kernel
theorem dL_plan_19 : decode cL_plan 19 = .ok (.iconst 1, 1) := by decide +kernel
theorem dL_plan_20 : decode cL_plan 20 = .ok (.ireturn, 1) := by decide +kernel
theorem dL_plan_21 : decode cL_plan 21 = .ok (.astore 6, 2) := by decide +kernel
theorem dL_plan_23 : decode cL_plan 23 = .ok (.iconst 2, 1) := by decide +kernel
theorem dL_plan_24 : decode cL_plan 24 = .ok (.ireturn, 1) := by decide +kernel
theorem dL_plan_25 : decode cL_plan 25 = .ok (.astore 6, 2) := by decide +kernel
theorem dL_plan_27 : decode cL_plan 27 = .ok (.iconst 3, 1) := by decide +kernel
theorem dL_plan_28 : decode cL_plan 28 = .ok (.ireturn, 1) := by decide +kernel
theorem dL_plan_29 : decode cL_plan 29 = .ok (.iconst 0, 1) := by decide +kernel
theorem dL_plan_30 : decode cL_plan 30 = .ok (.ireturn, 1) := by decide +kernel
theorem dL_isWrong_0 : decode cL_isWrong 0 = .ok (.aload_n 2, 1) := by decide +kernel
theorem dL_isWrong_1 : decode cL_isWrong 1 = .ok (.iconst 0, 1) := by decide +kernel
theorem dL_isWrong_2 : decode cL_isWrong 2 = .ok (.aload_n 0, 1) := by decide +kernel
theorem dL_isWrong_3 : decode cL_isWrong 3 = .ok (.iload_n 1, 1) := by decide +kernel
theorem dL_isWrong_4 : decode cL_isWrong 4 = .ok (.invokevirtual 81, 3) := by decide +kernel
theorem dL_isWrong_7 : decode cL_isWrong 7 = .ok (.ifCond .eq 7, 3) := by decide +kernel
theorem dL_isWrong_10 : decode cL_isWrong 10 = .ok (.lconst 1, 1) := by decide +kernel
theorem dL_isWrong_11 : decode cL_isWrong 11 = .ok (.goto 4, 3) := by decide +kernel
theorem dL_isWrong_14 : decode cL_isWrong 14 = .ok (.lconst 0, 1) := by decide +kernel
theorem dL_isWrong_15 : decode cL_isWrong 15 = .ok (.lastore, 1) := by decide +kernel
theorem dL_isWrong_16 : decode cL_isWrong 16 = .ok (.goto 6, 3) := by decide +kernel
theorem dL_isWrong_19 : decode cL_isWrong 19 = .ok (.astore_n 3, 1) := by decide +kernel
theorem dL_isWrong_20 : decode cL_isWrong 20 = .ok (.iconst 1, 1) := by decide +kernel
theorem dL_isWrong_21 : decode cL_isWrong 21 = .ok (.ireturn, 1) := by decide +kernel
theorem dL_isWrong_22 : decode cL_isWrong 22 = .ok (.iconst 0, 1) := by decide +kernel
theorem dL_isWrong_23 : decode cL_isWrong 23 = .ok (.ireturn, 1) := by decide +kernel
theorem dL_law_0 : decode cL_law 0 = .ok (.new 8, 3) := by decide +kernel
theorem dL_law_3 : decode cL_law 3 = .ok (.dup, 1) := by decide +kernel
theorem dL_law_4 : decode cL_law 4 = .ok (.invokespecial 85, 3) := by decide +kernel
theorem dL_law_7 : decode cL_law 7 = .ok (.astore_n 1, 1) := by decide +kernel
theorem dL_law_8 : decode cL_law 8 = .ok (.new 86, 3) := by decide +kernel
theorem dL_law_11 : decode cL_law 11 = .ok (.dup, 1) := by decide +kernel
theorem dL_law_12 : decode cL_law 12 = .ok (.invokespecial 88, 3) := by decide +kernel
theorem dL_law_15 : decode cL_law 15 = .ok (.astore_n 2, 1) := by decide +kernel
theorem dL_law_16 : decode cL_law 16 = .ok (.iconst 1, 1) := by decide +kernel
theorem dL_law_17 : decode cL_law 17 = .ok (.newarray .long, 2) := by decide +kernel
theorem dL_law_19 : decode cL_law 19 = .ok (.astore_n 3, 1) := by decide +kernel
theorem dL_law_20 : decode cL_law 20 = .ok (.iconst 0, 1) := by decide +kernel
theorem dL_law_21 : decode cL_law 21 = .ok (.istore 4, 2) := by decide +kernel
theorem dL_law_23 : decode cL_law 23 = .ok (.iload 4, 2) := by decide +kernel
theorem dL_law_25 : decode cL_law 25 = .ok (.aload_n 0, 1) := by decide +kernel
theorem dL_law_26 : decode cL_law 26 = .ok (.arraylength, 1) := by decide +kernel
theorem dL_law_27 : decode cL_law 27 = .ok (.iconst 5, 1) := by decide +kernel
theorem dL_law_28 : decode cL_law 28 = .ok (.isub, 1) := by decide +kernel
theorem dL_law_29 : decode cL_law 29 = .ok (.if_icmp .gt 1654, 3) := by decide +kernel
theorem dL_law_32 : decode cL_law 32 = .ok (.aload_n 0, 1) := by decide +kernel
theorem dL_law_33 : decode cL_law 33 = .ok (.iload 4, 2) := by decide +kernel
theorem dL_law_35 : decode cL_law 35 = .ok (.iaload, 1) := by decide +kernel
theorem dL_law_36 : decode cL_law 36 = .ok (.bipush 31, 2) := by decide +kernel
theorem dL_law_38 : decode cL_law 38 = .ok (.iand, 1) := by decide +kernel
theorem dL_law_39 : decode cL_law 39 = .ok (.tableswitch 1638 0 23 #[109, 177, 257, 301, 381, 449, 493, 506, 519, 575, 631, 687, 755, 835, 903, 959, 1051, 1150, 1230, 1310, 1390, 1470, 1562, 1625], 109) := by decide +kernel
theorem dL_law_148 : decode cL_law 148 = .ok (.aload_n 1, 1) := by decide +kernel
theorem dL_law_149 : decode cL_law 149 = .ok (.aload_n 0, 1) := by decide +kernel
theorem dL_law_150 : decode cL_law 150 = .ok (.iload 4, 2) := by decide +kernel
theorem dL_law_152 : decode cL_law 152 = .ok (.iconst 1, 1) := by decide +kernel
theorem dL_law_153 : decode cL_law 153 = .ok (.iadd, 1) := by decide +kernel
theorem dL_law_154 : decode cL_law 154 = .ok (.iaload, 1) := by decide +kernel
theorem dL_law_155 : decode cL_law 155 = .ok (.aload_n 0, 1) := by decide +kernel
theorem dL_law_156 : decode cL_law 156 = .ok (.iload 4, 2) := by decide +kernel
theorem dL_law_158 : decode cL_law 158 = .ok (.iconst 2, 1) := by decide +kernel
theorem dL_law_159 : decode cL_law 159 = .ok (.iadd, 1) := by decide +kernel
theorem dL_law_160 : decode cL_law 160 = .ok (.iaload, 1) := by decide +kernel
theorem dL_law_161 : decode cL_law 161 = .ok (.aload_n 3, 1) := by decide +kernel
theorem dL_law_162 : decode cL_law 162 = .ok (.invokestatic 89, 3) := by decide +kernel
theorem dL_law_165 : decode cL_law 165 = .ok (.istore 5, 2) := by decide +kernel
theorem dL_law_167 : decode cL_law 167 = .ok (.aload_n 2, 1) := by decide +kernel
theorem dL_law_168 : decode cL_law 168 = .ok (.aload_n 0, 1) := by decide +kernel
theorem dL_law_169 : decode cL_law 169 = .ok (.iload 4, 2) := by decide +kernel
theorem dL_law_171 : decode cL_law 171 = .ok (.iconst 1, 1) := by decide +kernel
theorem dL_law_172 : decode cL_law 172 = .ok (.iadd, 1) := by decide +kernel
theorem dL_law_173 : decode cL_law 173 = .ok (.iaload, 1) := by decide +kernel
theorem dL_law_174 : decode cL_law 174 = .ok (.aload_n 0, 1) := by decide +kernel
theorem dL_law_175 : decode cL_law 175 = .ok (.iload 4, 2) := by decide +kernel
theorem dL_law_177 : decode cL_law 177 = .ok (.iconst 2, 1) := by decide +kernel
theorem dL_law_178 : decode cL_law 178 = .ok (.iadd, 1) := by decide +kernel
theorem dL_law_179 : decode cL_law 179 = .ok (.iaload, 1) := by decide +kernel
theorem dL_law_180 : decode cL_law 180 = .ok (.invokevirtual 94, 3) := by decide +kernel
theorem dL_law_183 : decode cL_law 183 = .ok (.istore 6, 2) := by decide +kernel
theorem dL_law_185 : decode cL_law 185 = .ok (.aload_n 2, 1) := by decide +kernel
theorem dL_law_186 : decode cL_law 186 = .ok (.invokevirtual 95, 3) := by decide +kernel
theorem dL_law_189 : decode cL_law 189 = .ok (.iload 5, 2) := by decide +kernel
theorem dL_law_191 : decode cL_law 191 = .ok (.if_icmp .eq 5, 3) := by decide +kernel
theorem dL_law_194 : decode cL_law 194 = .ok (.iconst 0, 1) := by decide +kernel
theorem dL_law_195 : decode cL_law 195 = .ok (.ireturn, 1) := by decide +kernel
theorem dL_law_196 : decode cL_law 196 = .ok (.iload 5, 2) := by decide +kernel
theorem dL_law_198 : decode cL_law 198 = .ok (.ifCond .ne 15, 3) := by decide +kernel
theorem dL_law_201 : decode cL_law 201 = .ok (.aload_n 3, 1) := by decide +kernel
theorem dL_law_202 : decode cL_law 202 = .ok (.iconst 0, 1) := by decide +kernel
theorem dL_law_203 : decode cL_law 203 = .ok (.laload, 1) := by decide +kernel
theorem dL_law_204 : decode cL_law 204 = .ok (.iload 6, 2) := by decide +kernel
theorem dL_law_206 : decode cL_law 206 = .ok (.i2l, 1) := by decide +kernel
theorem dL_law_207 : decode cL_law 207 = .ok (.lcmp, 1) := by decide +kernel
theorem dL_law_208 : decode cL_law 208 = .ok (.ifCond .eq 5, 3) := by decide +kernel
theorem dL_law_211 : decode cL_law 211 = .ok (.iconst 0, 1) := by decide +kernel
theorem dL_law_212 : decode cL_law 212 = .ok (.ireturn, 1) := by decide +kernel
theorem dL_law_213 : decode cL_law 213 = .ok (.goto 1464, 3) := by decide +kernel
theorem dL_law_216 : decode cL_law 216 = .ok (.aload_n 1, 1) := by decide +kernel
theorem dL_law_217 : decode cL_law 217 = .ok (.aload_n 0, 1) := by decide +kernel
theorem dL_law_218 : decode cL_law 218 = .ok (.iload 4, 2) := by decide +kernel
theorem dL_law_220 : decode cL_law 220 = .ok (.iconst 1, 1) := by decide +kernel
theorem dL_law_221 : decode cL_law 221 = .ok (.iadd, 1) := by decide +kernel
theorem dL_law_222 : decode cL_law 222 = .ok (.iaload, 1) := by decide +kernel
theorem dL_law_223 : decode cL_law 223 = .ok (.aload_n 0, 1) := by decide +kernel
theorem dL_law_224 : decode cL_law 224 = .ok (.iload 4, 2) := by decide +kernel
theorem dL_law_226 : decode cL_law 226 = .ok (.iconst 2, 1) := by decide +kernel
theorem dL_law_227 : decode cL_law 227 = .ok (.iadd, 1) := by decide +kernel
theorem dL_law_228 : decode cL_law 228 = .ok (.iaload, 1) := by decide +kernel
theorem dL_law_229 : decode cL_law 229 = .ok (.aload_n 0, 1) := by decide +kernel
theorem dL_law_230 : decode cL_law 230 = .ok (.iload 4, 2) := by decide +kernel
theorem dL_law_232 : decode cL_law 232 = .ok (.iconst 3, 1) := by decide +kernel
theorem dL_law_233 : decode cL_law 233 = .ok (.iadd, 1) := by decide +kernel
theorem dL_law_234 : decode cL_law 234 = .ok (.iaload, 1) := by decide +kernel
theorem dL_law_235 : decode cL_law 235 = .ok (.aload_n 3, 1) := by decide +kernel
theorem dL_law_236 : decode cL_law 236 = .ok (.invokestatic 98, 3) := by decide +kernel
theorem dL_law_239 : decode cL_law 239 = .ok (.istore 5, 2) := by decide +kernel
theorem dL_law_241 : decode cL_law 241 = .ok (.aload_n 2, 1) := by decide +kernel
theorem dL_law_242 : decode cL_law 242 = .ok (.aload_n 0, 1) := by decide +kernel
theorem dL_law_243 : decode cL_law 243 = .ok (.iload 4, 2) := by decide +kernel
theorem dL_law_245 : decode cL_law 245 = .ok (.iconst 1, 1) := by decide +kernel
theorem dL_law_246 : decode cL_law 246 = .ok (.iadd, 1) := by decide +kernel
theorem dL_law_247 : decode cL_law 247 = .ok (.iaload, 1) := by decide +kernel
theorem dL_law_248 : decode cL_law 248 = .ok (.aload_n 0, 1) := by decide +kernel
theorem dL_law_249 : decode cL_law 249 = .ok (.iload 4, 2) := by decide +kernel
theorem dL_law_251 : decode cL_law 251 = .ok (.iconst 2, 1) := by decide +kernel
theorem dL_law_252 : decode cL_law 252 = .ok (.iadd, 1) := by decide +kernel
theorem dL_law_253 : decode cL_law 253 = .ok (.iaload, 1) := by decide +kernel
theorem dL_law_254 : decode cL_law 254 = .ok (.aload_n 0, 1) := by decide +kernel
theorem dL_law_255 : decode cL_law 255 = .ok (.iload 4, 2) := by decide +kernel
theorem dL_law_257 : decode cL_law 257 = .ok (.iconst 3, 1) := by decide +kernel
theorem dL_law_258 : decode cL_law 258 = .ok (.iadd, 1) := by decide +kernel
theorem dL_law_259 : decode cL_law 259 = .ok (.iaload, 1) := by decide +kernel
theorem dL_law_260 : decode cL_law 260 = .ok (.invokevirtual 101, 3) := by decide +kernel
theorem dL_law_263 : decode cL_law 263 = .ok (.istore 6, 2) := by decide +kernel
theorem dL_law_265 : decode cL_law 265 = .ok (.aload_n 2, 1) := by decide +kernel
theorem dL_law_266 : decode cL_law 266 = .ok (.invokevirtual 95, 3) := by decide +kernel
theorem dL_law_269 : decode cL_law 269 = .ok (.iload 5, 2) := by decide +kernel
theorem dL_law_271 : decode cL_law 271 = .ok (.if_icmp .eq 5, 3) := by decide +kernel
theorem dL_law_274 : decode cL_law 274 = .ok (.iconst 0, 1) := by decide +kernel
theorem dL_law_275 : decode cL_law 275 = .ok (.ireturn, 1) := by decide +kernel
theorem dL_law_276 : decode cL_law 276 = .ok (.iload 5, 2) := by decide +kernel
theorem dL_law_278 : decode cL_law 278 = .ok (.ifCond .ne 15, 3) := by decide +kernel
theorem dL_law_281 : decode cL_law 281 = .ok (.aload_n 3, 1) := by decide +kernel
theorem dL_law_282 : decode cL_law 282 = .ok (.iconst 0, 1) := by decide +kernel
theorem dL_law_283 : decode cL_law 283 = .ok (.laload, 1) := by decide +kernel
theorem dL_law_284 : decode cL_law 284 = .ok (.iload 6, 2) := by decide +kernel
theorem dL_law_286 : decode cL_law 286 = .ok (.i2l, 1) := by decide +kernel
theorem dL_law_287 : decode cL_law 287 = .ok (.lcmp, 1) := by decide +kernel
theorem dL_law_288 : decode cL_law 288 = .ok (.ifCond .eq 5, 3) := by decide +kernel
theorem dL_law_291 : decode cL_law 291 = .ok (.iconst 0, 1) := by decide +kernel
theorem dL_law_292 : decode cL_law 292 = .ok (.ireturn, 1) := by decide +kernel
theorem dL_law_293 : decode cL_law 293 = .ok (.goto 1384, 3) := by decide +kernel
theorem dL_law_296 : decode cL_law 296 = .ok (.aload_n 1, 1) := by decide +kernel
theorem dL_law_297 : decode cL_law 297 = .ok (.aload_n 3, 1) := by decide +kernel
theorem dL_law_298 : decode cL_law 298 = .ok (.invokestatic 102, 3) := by decide +kernel
theorem dL_law_301 : decode cL_law 301 = .ok (.istore 5, 2) := by decide +kernel
theorem dL_law_303 : decode cL_law 303 = .ok (.aload_n 2, 1) := by decide +kernel
theorem dL_law_304 : decode cL_law 304 = .ok (.invokevirtual 105, 3) := by decide +kernel
theorem dL_law_307 : decode cL_law 307 = .ok (.istore 6, 2) := by decide +kernel
theorem dL_law_309 : decode cL_law 309 = .ok (.aload_n 2, 1) := by decide +kernel
theorem dL_law_310 : decode cL_law 310 = .ok (.invokevirtual 95, 3) := by decide +kernel
theorem dL_law_313 : decode cL_law 313 = .ok (.iload 5, 2) := by decide +kernel
theorem dL_law_315 : decode cL_law 315 = .ok (.if_icmp .eq 5, 3) := by decide +kernel
theorem dL_law_318 : decode cL_law 318 = .ok (.iconst 0, 1) := by decide +kernel
theorem dL_law_319 : decode cL_law 319 = .ok (.ireturn, 1) := by decide +kernel
theorem dL_law_320 : decode cL_law 320 = .ok (.iload 5, 2) := by decide +kernel
theorem dL_law_322 : decode cL_law 322 = .ok (.ifCond .ne 15, 3) := by decide +kernel
theorem dL_law_325 : decode cL_law 325 = .ok (.aload_n 3, 1) := by decide +kernel
theorem dL_law_326 : decode cL_law 326 = .ok (.iconst 0, 1) := by decide +kernel
theorem dL_law_327 : decode cL_law 327 = .ok (.laload, 1) := by decide +kernel
theorem dL_law_328 : decode cL_law 328 = .ok (.iload 6, 2) := by decide +kernel
theorem dL_law_330 : decode cL_law 330 = .ok (.i2l, 1) := by decide +kernel
theorem dL_law_331 : decode cL_law 331 = .ok (.lcmp, 1) := by decide +kernel
theorem dL_law_332 : decode cL_law 332 = .ok (.ifCond .eq 5, 3) := by decide +kernel
theorem dL_law_335 : decode cL_law 335 = .ok (.iconst 0, 1) := by decide +kernel
theorem dL_law_336 : decode cL_law 336 = .ok (.ireturn, 1) := by decide +kernel
theorem dL_law_337 : decode cL_law 337 = .ok (.goto 1340, 3) := by decide +kernel
theorem dL_law_340 : decode cL_law 340 = .ok (.aload_n 1, 1) := by decide +kernel
theorem dL_law_341 : decode cL_law 341 = .ok (.aload_n 0, 1) := by decide +kernel
theorem dL_law_342 : decode cL_law 342 = .ok (.iload 4, 2) := by decide +kernel
theorem dL_law_344 : decode cL_law 344 = .ok (.iconst 1, 1) := by decide +kernel
theorem dL_law_345 : decode cL_law 345 = .ok (.iadd, 1) := by decide +kernel
theorem dL_law_346 : decode cL_law 346 = .ok (.iaload, 1) := by decide +kernel
theorem dL_law_347 : decode cL_law 347 = .ok (.aload_n 0, 1) := by decide +kernel
theorem dL_law_348 : decode cL_law 348 = .ok (.iload 4, 2) := by decide +kernel
theorem dL_law_350 : decode cL_law 350 = .ok (.iconst 2, 1) := by decide +kernel
theorem dL_law_351 : decode cL_law 351 = .ok (.iadd, 1) := by decide +kernel
theorem dL_law_352 : decode cL_law 352 = .ok (.iaload, 1) := by decide +kernel
theorem dL_law_353 : decode cL_law 353 = .ok (.aload_n 0, 1) := by decide +kernel
theorem dL_law_354 : decode cL_law 354 = .ok (.iload 4, 2) := by decide +kernel
theorem dL_law_356 : decode cL_law 356 = .ok (.iconst 3, 1) := by decide +kernel
theorem dL_law_357 : decode cL_law 357 = .ok (.iadd, 1) := by decide +kernel
theorem dL_law_358 : decode cL_law 358 = .ok (.iaload, 1) := by decide +kernel
theorem dL_law_359 : decode cL_law 359 = .ok (.aload_n 3, 1) := by decide +kernel
theorem dL_law_360 : decode cL_law 360 = .ok (.invokestatic 106, 3) := by decide +kernel
theorem dL_law_363 : decode cL_law 363 = .ok (.istore 5, 2) := by decide +kernel
theorem dL_law_365 : decode cL_law 365 = .ok (.aload_n 2, 1) := by decide +kernel
theorem dL_law_366 : decode cL_law 366 = .ok (.aload_n 0, 1) := by decide +kernel
theorem dL_law_367 : decode cL_law 367 = .ok (.iload 4, 2) := by decide +kernel
theorem dL_law_369 : decode cL_law 369 = .ok (.iconst 1, 1) := by decide +kernel
theorem dL_law_370 : decode cL_law 370 = .ok (.iadd, 1) := by decide +kernel
theorem dL_law_371 : decode cL_law 371 = .ok (.iaload, 1) := by decide +kernel
theorem dL_law_372 : decode cL_law 372 = .ok (.aload_n 0, 1) := by decide +kernel
theorem dL_law_373 : decode cL_law 373 = .ok (.iload 4, 2) := by decide +kernel
theorem dL_law_375 : decode cL_law 375 = .ok (.iconst 2, 1) := by decide +kernel
theorem dL_law_376 : decode cL_law 376 = .ok (.iadd, 1) := by decide +kernel
theorem dL_law_377 : decode cL_law 377 = .ok (.iaload, 1) := by decide +kernel
theorem dL_law_378 : decode cL_law 378 = .ok (.aload_n 0, 1) := by decide +kernel
theorem dL_law_379 : decode cL_law 379 = .ok (.iload 4, 2) := by decide +kernel
theorem dL_law_381 : decode cL_law 381 = .ok (.iconst 3, 1) := by decide +kernel
theorem dL_law_382 : decode cL_law 382 = .ok (.iadd, 1) := by decide +kernel
theorem dL_law_383 : decode cL_law 383 = .ok (.iaload, 1) := by decide +kernel
theorem dL_law_384 : decode cL_law 384 = .ok (.invokevirtual 108, 3) := by decide +kernel
theorem dL_law_387 : decode cL_law 387 = .ok (.istore 6, 2) := by decide +kernel
theorem dL_law_389 : decode cL_law 389 = .ok (.aload_n 2, 1) := by decide +kernel
theorem dL_law_390 : decode cL_law 390 = .ok (.invokevirtual 95, 3) := by decide +kernel
theorem dL_law_393 : decode cL_law 393 = .ok (.iload 5, 2) := by decide +kernel
theorem dL_law_395 : decode cL_law 395 = .ok (.if_icmp .eq 5, 3) := by decide +kernel
theorem dL_law_398 : decode cL_law 398 = .ok (.iconst 0, 1) := by decide +kernel
theorem dL_law_399 : decode cL_law 399 = .ok (.ireturn, 1) := by decide +kernel
theorem dL_law_400 : decode cL_law 400 = .ok (.iload 5, 2) := by decide +kernel
theorem dL_law_402 : decode cL_law 402 = .ok (.ifCond .ne 15, 3) := by decide +kernel
theorem dL_law_405 : decode cL_law 405 = .ok (.aload_n 3, 1) := by decide +kernel
theorem dL_law_406 : decode cL_law 406 = .ok (.iconst 0, 1) := by decide +kernel
theorem dL_law_407 : decode cL_law 407 = .ok (.laload, 1) := by decide +kernel
theorem dL_law_408 : decode cL_law 408 = .ok (.iload 6, 2) := by decide +kernel
theorem dL_law_410 : decode cL_law 410 = .ok (.i2l, 1) := by decide +kernel
theorem dL_law_411 : decode cL_law 411 = .ok (.lcmp, 1) := by decide +kernel
theorem dL_law_412 : decode cL_law 412 = .ok (.ifCond .eq 5, 3) := by decide +kernel
theorem dL_law_415 : decode cL_law 415 = .ok (.iconst 0, 1) := by decide +kernel
theorem dL_law_416 : decode cL_law 416 = .ok (.ireturn, 1) := by decide +kernel
theorem dL_law_417 : decode cL_law 417 = .ok (.goto 1260, 3) := by decide +kernel
theorem dL_law_420 : decode cL_law 420 = .ok (.aload_n 1, 1) := by decide +kernel
theorem dL_law_421 : decode cL_law 421 = .ok (.aload_n 0, 1) := by decide +kernel
theorem dL_law_422 : decode cL_law 422 = .ok (.iload 4, 2) := by decide +kernel
theorem dL_law_424 : decode cL_law 424 = .ok (.iconst 1, 1) := by decide +kernel
theorem dL_law_425 : decode cL_law 425 = .ok (.iadd, 1) := by decide +kernel
theorem dL_law_426 : decode cL_law 426 = .ok (.iaload, 1) := by decide +kernel
theorem dL_law_427 : decode cL_law 427 = .ok (.aload_n 0, 1) := by decide +kernel
theorem dL_law_428 : decode cL_law 428 = .ok (.iload 4, 2) := by decide +kernel
theorem dL_law_430 : decode cL_law 430 = .ok (.iconst 2, 1) := by decide +kernel
theorem dL_law_431 : decode cL_law 431 = .ok (.iadd, 1) := by decide +kernel
theorem dL_law_432 : decode cL_law 432 = .ok (.iaload, 1) := by decide +kernel
theorem dL_law_433 : decode cL_law 433 = .ok (.aload_n 3, 1) := by decide +kernel
theorem dL_law_434 : decode cL_law 434 = .ok (.invokestatic 109, 3) := by decide +kernel
theorem dL_law_437 : decode cL_law 437 = .ok (.istore 5, 2) := by decide +kernel
theorem dL_law_439 : decode cL_law 439 = .ok (.aload_n 2, 1) := by decide +kernel
theorem dL_law_440 : decode cL_law 440 = .ok (.aload_n 0, 1) := by decide +kernel
theorem dL_law_441 : decode cL_law 441 = .ok (.iload 4, 2) := by decide +kernel
theorem dL_law_443 : decode cL_law 443 = .ok (.iconst 1, 1) := by decide +kernel
theorem dL_law_444 : decode cL_law 444 = .ok (.iadd, 1) := by decide +kernel
theorem dL_law_445 : decode cL_law 445 = .ok (.iaload, 1) := by decide +kernel
theorem dL_law_446 : decode cL_law 446 = .ok (.aload_n 0, 1) := by decide +kernel
theorem dL_law_447 : decode cL_law 447 = .ok (.iload 4, 2) := by decide +kernel
theorem dL_law_449 : decode cL_law 449 = .ok (.iconst 2, 1) := by decide +kernel
theorem dL_law_450 : decode cL_law 450 = .ok (.iadd, 1) := by decide +kernel
theorem dL_law_451 : decode cL_law 451 = .ok (.iaload, 1) := by decide +kernel
theorem dL_law_452 : decode cL_law 452 = .ok (.invokevirtual 111, 3) := by decide +kernel
theorem dL_law_455 : decode cL_law 455 = .ok (.istore 6, 2) := by decide +kernel
theorem dL_law_457 : decode cL_law 457 = .ok (.aload_n 2, 1) := by decide +kernel
theorem dL_law_458 : decode cL_law 458 = .ok (.invokevirtual 95, 3) := by decide +kernel
theorem dL_law_461 : decode cL_law 461 = .ok (.iload 5, 2) := by decide +kernel
theorem dL_law_463 : decode cL_law 463 = .ok (.if_icmp .eq 5, 3) := by decide +kernel
theorem dL_law_466 : decode cL_law 466 = .ok (.iconst 0, 1) := by decide +kernel
theorem dL_law_467 : decode cL_law 467 = .ok (.ireturn, 1) := by decide +kernel
theorem dL_law_468 : decode cL_law 468 = .ok (.iload 5, 2) := by decide +kernel
theorem dL_law_470 : decode cL_law 470 = .ok (.ifCond .ne 15, 3) := by decide +kernel
theorem dL_law_473 : decode cL_law 473 = .ok (.aload_n 3, 1) := by decide +kernel
theorem dL_law_474 : decode cL_law 474 = .ok (.iconst 0, 1) := by decide +kernel
theorem dL_law_475 : decode cL_law 475 = .ok (.laload, 1) := by decide +kernel
theorem dL_law_476 : decode cL_law 476 = .ok (.iload 6, 2) := by decide +kernel
theorem dL_law_478 : decode cL_law 478 = .ok (.i2l, 1) := by decide +kernel
theorem dL_law_479 : decode cL_law 479 = .ok (.lcmp, 1) := by decide +kernel
theorem dL_law_480 : decode cL_law 480 = .ok (.ifCond .eq 5, 3) := by decide +kernel
theorem dL_law_483 : decode cL_law 483 = .ok (.iconst 0, 1) := by decide +kernel
theorem dL_law_484 : decode cL_law 484 = .ok (.ireturn, 1) := by decide +kernel
theorem dL_law_485 : decode cL_law 485 = .ok (.goto 1192, 3) := by decide +kernel
theorem dL_law_488 : decode cL_law 488 = .ok (.aload_n 1, 1) := by decide +kernel
theorem dL_law_489 : decode cL_law 489 = .ok (.aload_n 3, 1) := by decide +kernel
theorem dL_law_490 : decode cL_law 490 = .ok (.invokestatic 112, 3) := by decide +kernel
theorem dL_law_493 : decode cL_law 493 = .ok (.istore 5, 2) := by decide +kernel
theorem dL_law_495 : decode cL_law 495 = .ok (.aload_n 2, 1) := by decide +kernel
theorem dL_law_496 : decode cL_law 496 = .ok (.invokevirtual 114, 3) := by decide +kernel
theorem dL_law_499 : decode cL_law 499 = .ok (.istore 6, 2) := by decide +kernel
theorem dL_law_501 : decode cL_law 501 = .ok (.aload_n 2, 1) := by decide +kernel
theorem dL_law_502 : decode cL_law 502 = .ok (.invokevirtual 95, 3) := by decide +kernel
theorem dL_law_505 : decode cL_law 505 = .ok (.iload 5, 2) := by decide +kernel
theorem dL_law_507 : decode cL_law 507 = .ok (.if_icmp .eq 5, 3) := by decide +kernel
theorem dL_law_510 : decode cL_law 510 = .ok (.iconst 0, 1) := by decide +kernel
theorem dL_law_511 : decode cL_law 511 = .ok (.ireturn, 1) := by decide +kernel
theorem dL_law_512 : decode cL_law 512 = .ok (.iload 5, 2) := by decide +kernel
theorem dL_law_514 : decode cL_law 514 = .ok (.ifCond .ne 15, 3) := by decide +kernel
theorem dL_law_517 : decode cL_law 517 = .ok (.aload_n 3, 1) := by decide +kernel
theorem dL_law_518 : decode cL_law 518 = .ok (.iconst 0, 1) := by decide +kernel
theorem dL_law_519 : decode cL_law 519 = .ok (.laload, 1) := by decide +kernel
theorem dL_law_520 : decode cL_law 520 = .ok (.iload 6, 2) := by decide +kernel
theorem dL_law_522 : decode cL_law 522 = .ok (.i2l, 1) := by decide +kernel
theorem dL_law_523 : decode cL_law 523 = .ok (.lcmp, 1) := by decide +kernel
theorem dL_law_524 : decode cL_law 524 = .ok (.ifCond .eq 5, 3) := by decide +kernel
theorem dL_law_527 : decode cL_law 527 = .ok (.iconst 0, 1) := by decide +kernel
theorem dL_law_528 : decode cL_law 528 = .ok (.ireturn, 1) := by decide +kernel
theorem dL_law_529 : decode cL_law 529 = .ok (.goto 1148, 3) := by decide +kernel
theorem dL_law_532 : decode cL_law 532 = .ok (.aload_n 1, 1) := by decide +kernel
theorem dL_law_533 : decode cL_law 533 = .ok (.invokevirtual 115, 3) := by decide +kernel
theorem dL_law_536 : decode cL_law 536 = .ok (.aload_n 2, 1) := by decide +kernel
theorem dL_law_537 : decode cL_law 537 = .ok (.invokevirtual 118, 3) := by decide +kernel
theorem dL_law_540 : decode cL_law 540 = .ok (.if_icmp .eq 1137, 3) := by decide +kernel
theorem dL_law_543 : decode cL_law 543 = .ok (.iconst 0, 1) := by decide +kernel
theorem dL_law_544 : decode cL_law 544 = .ok (.ireturn, 1) := by decide +kernel
theorem dL_law_545 : decode cL_law 545 = .ok (.aload_n 1, 1) := by decide +kernel
theorem dL_law_546 : decode cL_law 546 = .ok (.invokevirtual 119, 3) := by decide +kernel
theorem dL_law_549 : decode cL_law 549 = .ok (.aload_n 2, 1) := by decide +kernel
theorem dL_law_550 : decode cL_law 550 = .ok (.invokevirtual 122, 3) := by decide +kernel
theorem dL_law_553 : decode cL_law 553 = .ok (.if_icmp .eq 1124, 3) := by decide +kernel
theorem dL_law_556 : decode cL_law 556 = .ok (.iconst 0, 1) := by decide +kernel
theorem dL_law_557 : decode cL_law 557 = .ok (.ireturn, 1) := by decide +kernel
theorem dL_law_558 : decode cL_law 558 = .ok (.aload_n 1, 1) := by decide +kernel
theorem dL_law_559 : decode cL_law 559 = .ok (.aload_n 0, 1) := by decide +kernel
theorem dL_law_560 : decode cL_law 560 = .ok (.iload 4, 2) := by decide +kernel
theorem dL_law_562 : decode cL_law 562 = .ok (.iconst 1, 1) := by decide +kernel
theorem dL_law_563 : decode cL_law 563 = .ok (.iadd, 1) := by decide +kernel
theorem dL_law_564 : decode cL_law 564 = .ok (.iaload, 1) := by decide +kernel
theorem dL_law_565 : decode cL_law 565 = .ok (.aload_n 3, 1) := by decide +kernel
theorem dL_law_566 : decode cL_law 566 = .ok (.invokestatic 123, 3) := by decide +kernel
theorem dL_law_569 : decode cL_law 569 = .ok (.istore 5, 2) := by decide +kernel
theorem dL_law_571 : decode cL_law 571 = .ok (.aload_n 2, 1) := by decide +kernel
theorem dL_law_572 : decode cL_law 572 = .ok (.aload_n 0, 1) := by decide +kernel
theorem dL_law_573 : decode cL_law 573 = .ok (.iload 4, 2) := by decide +kernel
theorem dL_law_575 : decode cL_law 575 = .ok (.iconst 1, 1) := by decide +kernel
theorem dL_law_576 : decode cL_law 576 = .ok (.iadd, 1) := by decide +kernel
theorem dL_law_577 : decode cL_law 577 = .ok (.iaload, 1) := by decide +kernel
theorem dL_law_578 : decode cL_law 578 = .ok (.invokevirtual 126, 3) := by decide +kernel
theorem dL_law_581 : decode cL_law 581 = .ok (.istore 6, 2) := by decide +kernel
theorem dL_law_583 : decode cL_law 583 = .ok (.aload_n 2, 1) := by decide +kernel
theorem dL_law_584 : decode cL_law 584 = .ok (.invokevirtual 95, 3) := by decide +kernel
theorem dL_law_587 : decode cL_law 587 = .ok (.iload 5, 2) := by decide +kernel
theorem dL_law_589 : decode cL_law 589 = .ok (.if_icmp .eq 5, 3) := by decide +kernel
theorem dL_law_592 : decode cL_law 592 = .ok (.iconst 0, 1) := by decide +kernel
theorem dL_law_593 : decode cL_law 593 = .ok (.ireturn, 1) := by decide +kernel
theorem dL_law_594 : decode cL_law 594 = .ok (.iload 5, 2) := by decide +kernel
theorem dL_law_596 : decode cL_law 596 = .ok (.ifCond .ne 15, 3) := by decide +kernel
theorem dL_law_599 : decode cL_law 599 = .ok (.aload_n 3, 1) := by decide +kernel
theorem dL_law_600 : decode cL_law 600 = .ok (.iconst 0, 1) := by decide +kernel
theorem dL_law_601 : decode cL_law 601 = .ok (.laload, 1) := by decide +kernel
theorem dL_law_602 : decode cL_law 602 = .ok (.iload 6, 2) := by decide +kernel
theorem dL_law_604 : decode cL_law 604 = .ok (.i2l, 1) := by decide +kernel
theorem dL_law_605 : decode cL_law 605 = .ok (.lcmp, 1) := by decide +kernel
theorem dL_law_606 : decode cL_law 606 = .ok (.ifCond .eq 5, 3) := by decide +kernel
theorem dL_law_609 : decode cL_law 609 = .ok (.iconst 0, 1) := by decide +kernel
theorem dL_law_610 : decode cL_law 610 = .ok (.ireturn, 1) := by decide +kernel
theorem dL_law_611 : decode cL_law 611 = .ok (.goto 1066, 3) := by decide +kernel
theorem dL_law_614 : decode cL_law 614 = .ok (.aload_n 1, 1) := by decide +kernel
theorem dL_law_615 : decode cL_law 615 = .ok (.aload_n 0, 1) := by decide +kernel
theorem dL_law_616 : decode cL_law 616 = .ok (.iload 4, 2) := by decide +kernel
theorem dL_law_618 : decode cL_law 618 = .ok (.iconst 1, 1) := by decide +kernel
theorem dL_law_619 : decode cL_law 619 = .ok (.iadd, 1) := by decide +kernel
theorem dL_law_620 : decode cL_law 620 = .ok (.iaload, 1) := by decide +kernel
theorem dL_law_621 : decode cL_law 621 = .ok (.aload_n 3, 1) := by decide +kernel
theorem dL_law_622 : decode cL_law 622 = .ok (.invokestatic 127, 3) := by decide +kernel
theorem dL_law_625 : decode cL_law 625 = .ok (.istore 5, 2) := by decide +kernel
theorem dL_law_627 : decode cL_law 627 = .ok (.aload_n 2, 1) := by decide +kernel
theorem dL_law_628 : decode cL_law 628 = .ok (.aload_n 0, 1) := by decide +kernel
theorem dL_law_629 : decode cL_law 629 = .ok (.iload 4, 2) := by decide +kernel
theorem dL_law_631 : decode cL_law 631 = .ok (.iconst 1, 1) := by decide +kernel
theorem dL_law_632 : decode cL_law 632 = .ok (.iadd, 1) := by decide +kernel
theorem dL_law_633 : decode cL_law 633 = .ok (.iaload, 1) := by decide +kernel
theorem dL_law_634 : decode cL_law 634 = .ok (.invokevirtual 129, 3) := by decide +kernel
theorem dL_law_637 : decode cL_law 637 = .ok (.istore 6, 2) := by decide +kernel
theorem dL_law_639 : decode cL_law 639 = .ok (.aload_n 2, 1) := by decide +kernel
theorem dL_law_640 : decode cL_law 640 = .ok (.invokevirtual 95, 3) := by decide +kernel
theorem dL_law_643 : decode cL_law 643 = .ok (.iload 5, 2) := by decide +kernel
theorem dL_law_645 : decode cL_law 645 = .ok (.if_icmp .eq 5, 3) := by decide +kernel
theorem dL_law_648 : decode cL_law 648 = .ok (.iconst 0, 1) := by decide +kernel
theorem dL_law_649 : decode cL_law 649 = .ok (.ireturn, 1) := by decide +kernel
theorem dL_law_650 : decode cL_law 650 = .ok (.iload 5, 2) := by decide +kernel
theorem dL_law_652 : decode cL_law 652 = .ok (.ifCond .ne 15, 3) := by decide +kernel
theorem dL_law_655 : decode cL_law 655 = .ok (.aload_n 3, 1) := by decide +kernel
theorem dL_law_656 : decode cL_law 656 = .ok (.iconst 0, 1) := by decide +kernel
theorem dL_law_657 : decode cL_law 657 = .ok (.laload, 1) := by decide +kernel
theorem dL_law_658 : decode cL_law 658 = .ok (.iload 6, 2) := by decide +kernel
theorem dL_law_660 : decode cL_law 660 = .ok (.i2l, 1) := by decide +kernel
theorem dL_law_661 : decode cL_law 661 = .ok (.lcmp, 1) := by decide +kernel
theorem dL_law_662 : decode cL_law 662 = .ok (.ifCond .eq 5, 3) := by decide +kernel
theorem dL_law_665 : decode cL_law 665 = .ok (.iconst 0, 1) := by decide +kernel
theorem dL_law_666 : decode cL_law 666 = .ok (.ireturn, 1) := by decide +kernel
theorem dL_law_667 : decode cL_law 667 = .ok (.goto 1010, 3) := by decide +kernel
theorem dL_law_670 : decode cL_law 670 = .ok (.aload_n 1, 1) := by decide +kernel
theorem dL_law_671 : decode cL_law 671 = .ok (.aload_n 0, 1) := by decide +kernel
theorem dL_law_672 : decode cL_law 672 = .ok (.iload 4, 2) := by decide +kernel
theorem dL_law_674 : decode cL_law 674 = .ok (.iconst 1, 1) := by decide +kernel
theorem dL_law_675 : decode cL_law 675 = .ok (.iadd, 1) := by decide +kernel
theorem dL_law_676 : decode cL_law 676 = .ok (.iaload, 1) := by decide +kernel
theorem dL_law_677 : decode cL_law 677 = .ok (.aload_n 3, 1) := by decide +kernel
theorem dL_law_678 : decode cL_law 678 = .ok (.invokestatic 130, 3) := by decide +kernel
theorem dL_law_681 : decode cL_law 681 = .ok (.istore 5, 2) := by decide +kernel
theorem dL_law_683 : decode cL_law 683 = .ok (.aload_n 2, 1) := by decide +kernel
theorem dL_law_684 : decode cL_law 684 = .ok (.aload_n 0, 1) := by decide +kernel
theorem dL_law_685 : decode cL_law 685 = .ok (.iload 4, 2) := by decide +kernel
theorem dL_law_687 : decode cL_law 687 = .ok (.iconst 1, 1) := by decide +kernel
theorem dL_law_688 : decode cL_law 688 = .ok (.iadd, 1) := by decide +kernel
theorem dL_law_689 : decode cL_law 689 = .ok (.iaload, 1) := by decide +kernel
theorem dL_law_690 : decode cL_law 690 = .ok (.invokevirtual 132, 3) := by decide +kernel
theorem dL_law_693 : decode cL_law 693 = .ok (.istore 6, 2) := by decide +kernel
theorem dL_law_695 : decode cL_law 695 = .ok (.aload_n 2, 1) := by decide +kernel
theorem dL_law_696 : decode cL_law 696 = .ok (.invokevirtual 95, 3) := by decide +kernel
theorem dL_law_699 : decode cL_law 699 = .ok (.iload 5, 2) := by decide +kernel
theorem dL_law_701 : decode cL_law 701 = .ok (.if_icmp .eq 5, 3) := by decide +kernel
theorem dL_law_704 : decode cL_law 704 = .ok (.iconst 0, 1) := by decide +kernel
theorem dL_law_705 : decode cL_law 705 = .ok (.ireturn, 1) := by decide +kernel
theorem dL_law_706 : decode cL_law 706 = .ok (.iload 5, 2) := by decide +kernel
theorem dL_law_708 : decode cL_law 708 = .ok (.ifCond .ne 15, 3) := by decide +kernel
theorem dL_law_711 : decode cL_law 711 = .ok (.aload_n 3, 1) := by decide +kernel
theorem dL_law_712 : decode cL_law 712 = .ok (.iconst 0, 1) := by decide +kernel
theorem dL_law_713 : decode cL_law 713 = .ok (.laload, 1) := by decide +kernel
theorem dL_law_714 : decode cL_law 714 = .ok (.iload 6, 2) := by decide +kernel
theorem dL_law_716 : decode cL_law 716 = .ok (.i2l, 1) := by decide +kernel
theorem dL_law_717 : decode cL_law 717 = .ok (.lcmp, 1) := by decide +kernel
theorem dL_law_718 : decode cL_law 718 = .ok (.ifCond .eq 5, 3) := by decide +kernel
theorem dL_law_721 : decode cL_law 721 = .ok (.iconst 0, 1) := by decide +kernel
theorem dL_law_722 : decode cL_law 722 = .ok (.ireturn, 1) := by decide +kernel
theorem dL_law_723 : decode cL_law 723 = .ok (.goto 954, 3) := by decide +kernel
theorem dL_law_726 : decode cL_law 726 = .ok (.aload_n 1, 1) := by decide +kernel
theorem dL_law_727 : decode cL_law 727 = .ok (.aload_n 0, 1) := by decide +kernel
theorem dL_law_728 : decode cL_law 728 = .ok (.iload 4, 2) := by decide +kernel
theorem dL_law_730 : decode cL_law 730 = .ok (.iconst 1, 1) := by decide +kernel
theorem dL_law_731 : decode cL_law 731 = .ok (.iadd, 1) := by decide +kernel
theorem dL_law_732 : decode cL_law 732 = .ok (.iaload, 1) := by decide +kernel
theorem dL_law_733 : decode cL_law 733 = .ok (.aload_n 0, 1) := by decide +kernel
theorem dL_law_734 : decode cL_law 734 = .ok (.iload 4, 2) := by decide +kernel
theorem dL_law_736 : decode cL_law 736 = .ok (.iconst 2, 1) := by decide +kernel
theorem dL_law_737 : decode cL_law 737 = .ok (.iadd, 1) := by decide +kernel
theorem dL_law_738 : decode cL_law 738 = .ok (.iaload, 1) := by decide +kernel
theorem dL_law_739 : decode cL_law 739 = .ok (.aload_n 3, 1) := by decide +kernel
theorem dL_law_740 : decode cL_law 740 = .ok (.invokestatic 133, 3) := by decide +kernel
theorem dL_law_743 : decode cL_law 743 = .ok (.istore 5, 2) := by decide +kernel
theorem dL_law_745 : decode cL_law 745 = .ok (.aload_n 2, 1) := by decide +kernel
theorem dL_law_746 : decode cL_law 746 = .ok (.aload_n 0, 1) := by decide +kernel
theorem dL_law_747 : decode cL_law 747 = .ok (.iload 4, 2) := by decide +kernel
theorem dL_law_749 : decode cL_law 749 = .ok (.iconst 1, 1) := by decide +kernel
theorem dL_law_750 : decode cL_law 750 = .ok (.iadd, 1) := by decide +kernel
theorem dL_law_751 : decode cL_law 751 = .ok (.iaload, 1) := by decide +kernel
theorem dL_law_752 : decode cL_law 752 = .ok (.aload_n 0, 1) := by decide +kernel
theorem dL_law_753 : decode cL_law 753 = .ok (.iload 4, 2) := by decide +kernel
theorem dL_law_755 : decode cL_law 755 = .ok (.iconst 2, 1) := by decide +kernel
theorem dL_law_756 : decode cL_law 756 = .ok (.iadd, 1) := by decide +kernel
theorem dL_law_757 : decode cL_law 757 = .ok (.iaload, 1) := by decide +kernel
theorem dL_law_758 : decode cL_law 758 = .ok (.invokevirtual 135, 3) := by decide +kernel
theorem dL_law_761 : decode cL_law 761 = .ok (.istore 6, 2) := by decide +kernel
theorem dL_law_763 : decode cL_law 763 = .ok (.aload_n 2, 1) := by decide +kernel
theorem dL_law_764 : decode cL_law 764 = .ok (.invokevirtual 95, 3) := by decide +kernel
theorem dL_law_767 : decode cL_law 767 = .ok (.iload 5, 2) := by decide +kernel
theorem dL_law_769 : decode cL_law 769 = .ok (.if_icmp .eq 5, 3) := by decide +kernel
theorem dL_law_772 : decode cL_law 772 = .ok (.iconst 0, 1) := by decide +kernel
theorem dL_law_773 : decode cL_law 773 = .ok (.ireturn, 1) := by decide +kernel
theorem dL_law_774 : decode cL_law 774 = .ok (.iload 5, 2) := by decide +kernel
theorem dL_law_776 : decode cL_law 776 = .ok (.ifCond .ne 15, 3) := by decide +kernel
theorem dL_law_779 : decode cL_law 779 = .ok (.aload_n 3, 1) := by decide +kernel
theorem dL_law_780 : decode cL_law 780 = .ok (.iconst 0, 1) := by decide +kernel
theorem dL_law_781 : decode cL_law 781 = .ok (.laload, 1) := by decide +kernel
theorem dL_law_782 : decode cL_law 782 = .ok (.iload 6, 2) := by decide +kernel
theorem dL_law_784 : decode cL_law 784 = .ok (.i2l, 1) := by decide +kernel
theorem dL_law_785 : decode cL_law 785 = .ok (.lcmp, 1) := by decide +kernel
theorem dL_law_786 : decode cL_law 786 = .ok (.ifCond .eq 5, 3) := by decide +kernel
theorem dL_law_789 : decode cL_law 789 = .ok (.iconst 0, 1) := by decide +kernel
theorem dL_law_790 : decode cL_law 790 = .ok (.ireturn, 1) := by decide +kernel
theorem dL_law_791 : decode cL_law 791 = .ok (.goto 886, 3) := by decide +kernel
theorem dL_law_794 : decode cL_law 794 = .ok (.aload_n 1, 1) := by decide +kernel
theorem dL_law_795 : decode cL_law 795 = .ok (.aload_n 0, 1) := by decide +kernel
theorem dL_law_796 : decode cL_law 796 = .ok (.iload 4, 2) := by decide +kernel
theorem dL_law_798 : decode cL_law 798 = .ok (.iconst 1, 1) := by decide +kernel
theorem dL_law_799 : decode cL_law 799 = .ok (.iadd, 1) := by decide +kernel
theorem dL_law_800 : decode cL_law 800 = .ok (.iaload, 1) := by decide +kernel
theorem dL_law_801 : decode cL_law 801 = .ok (.aload_n 0, 1) := by decide +kernel
theorem dL_law_802 : decode cL_law 802 = .ok (.iload 4, 2) := by decide +kernel
theorem dL_law_804 : decode cL_law 804 = .ok (.iconst 2, 1) := by decide +kernel
theorem dL_law_805 : decode cL_law 805 = .ok (.iadd, 1) := by decide +kernel
theorem dL_law_806 : decode cL_law 806 = .ok (.iaload, 1) := by decide +kernel
theorem dL_law_807 : decode cL_law 807 = .ok (.aload_n 0, 1) := by decide +kernel
theorem dL_law_808 : decode cL_law 808 = .ok (.iload 4, 2) := by decide +kernel
theorem dL_law_810 : decode cL_law 810 = .ok (.iconst 3, 1) := by decide +kernel
theorem dL_law_811 : decode cL_law 811 = .ok (.iadd, 1) := by decide +kernel
theorem dL_law_812 : decode cL_law 812 = .ok (.iaload, 1) := by decide +kernel
theorem dL_law_813 : decode cL_law 813 = .ok (.aload_n 3, 1) := by decide +kernel
theorem dL_law_814 : decode cL_law 814 = .ok (.invokestatic 136, 3) := by decide +kernel
theorem dL_law_817 : decode cL_law 817 = .ok (.istore 5, 2) := by decide +kernel
theorem dL_law_819 : decode cL_law 819 = .ok (.aload_n 2, 1) := by decide +kernel
theorem dL_law_820 : decode cL_law 820 = .ok (.aload_n 0, 1) := by decide +kernel
theorem dL_law_821 : decode cL_law 821 = .ok (.iload 4, 2) := by decide +kernel
theorem dL_law_823 : decode cL_law 823 = .ok (.iconst 1, 1) := by decide +kernel
theorem dL_law_824 : decode cL_law 824 = .ok (.iadd, 1) := by decide +kernel
theorem dL_law_825 : decode cL_law 825 = .ok (.iaload, 1) := by decide +kernel
theorem dL_law_826 : decode cL_law 826 = .ok (.aload_n 0, 1) := by decide +kernel
theorem dL_law_827 : decode cL_law 827 = .ok (.iload 4, 2) := by decide +kernel
theorem dL_law_829 : decode cL_law 829 = .ok (.iconst 2, 1) := by decide +kernel
theorem dL_law_830 : decode cL_law 830 = .ok (.iadd, 1) := by decide +kernel
theorem dL_law_831 : decode cL_law 831 = .ok (.iaload, 1) := by decide +kernel
theorem dL_law_832 : decode cL_law 832 = .ok (.aload_n 0, 1) := by decide +kernel
theorem dL_law_833 : decode cL_law 833 = .ok (.iload 4, 2) := by decide +kernel
theorem dL_law_835 : decode cL_law 835 = .ok (.iconst 3, 1) := by decide +kernel
theorem dL_law_836 : decode cL_law 836 = .ok (.iadd, 1) := by decide +kernel
theorem dL_law_837 : decode cL_law 837 = .ok (.iaload, 1) := by decide +kernel
theorem dL_law_838 : decode cL_law 838 = .ok (.invokevirtual 138, 3) := by decide +kernel
theorem dL_law_841 : decode cL_law 841 = .ok (.istore 6, 2) := by decide +kernel
theorem dL_law_843 : decode cL_law 843 = .ok (.aload_n 2, 1) := by decide +kernel
theorem dL_law_844 : decode cL_law 844 = .ok (.invokevirtual 95, 3) := by decide +kernel
theorem dL_law_847 : decode cL_law 847 = .ok (.iload 5, 2) := by decide +kernel
theorem dL_law_849 : decode cL_law 849 = .ok (.if_icmp .eq 5, 3) := by decide +kernel
theorem dL_law_852 : decode cL_law 852 = .ok (.iconst 0, 1) := by decide +kernel
theorem dL_law_853 : decode cL_law 853 = .ok (.ireturn, 1) := by decide +kernel
theorem dL_law_854 : decode cL_law 854 = .ok (.iload 5, 2) := by decide +kernel
theorem dL_law_856 : decode cL_law 856 = .ok (.ifCond .ne 15, 3) := by decide +kernel
theorem dL_law_859 : decode cL_law 859 = .ok (.aload_n 3, 1) := by decide +kernel
theorem dL_law_860 : decode cL_law 860 = .ok (.iconst 0, 1) := by decide +kernel
theorem dL_law_861 : decode cL_law 861 = .ok (.laload, 1) := by decide +kernel
theorem dL_law_862 : decode cL_law 862 = .ok (.iload 6, 2) := by decide +kernel
theorem dL_law_864 : decode cL_law 864 = .ok (.i2l, 1) := by decide +kernel
theorem dL_law_865 : decode cL_law 865 = .ok (.lcmp, 1) := by decide +kernel
theorem dL_law_866 : decode cL_law 866 = .ok (.ifCond .eq 5, 3) := by decide +kernel
theorem dL_law_869 : decode cL_law 869 = .ok (.iconst 0, 1) := by decide +kernel
theorem dL_law_870 : decode cL_law 870 = .ok (.ireturn, 1) := by decide +kernel
theorem dL_law_871 : decode cL_law 871 = .ok (.goto 806, 3) := by decide +kernel
theorem dL_law_874 : decode cL_law 874 = .ok (.aload_n 1, 1) := by decide +kernel
theorem dL_law_875 : decode cL_law 875 = .ok (.aload_n 0, 1) := by decide +kernel
theorem dL_law_876 : decode cL_law 876 = .ok (.iload 4, 2) := by decide +kernel
theorem dL_law_878 : decode cL_law 878 = .ok (.iconst 1, 1) := by decide +kernel
theorem dL_law_879 : decode cL_law 879 = .ok (.iadd, 1) := by decide +kernel
theorem dL_law_880 : decode cL_law 880 = .ok (.iaload, 1) := by decide +kernel
theorem dL_law_881 : decode cL_law 881 = .ok (.aload_n 0, 1) := by decide +kernel
theorem dL_law_882 : decode cL_law 882 = .ok (.iload 4, 2) := by decide +kernel
theorem dL_law_884 : decode cL_law 884 = .ok (.iconst 2, 1) := by decide +kernel
theorem dL_law_885 : decode cL_law 885 = .ok (.iadd, 1) := by decide +kernel
theorem dL_law_886 : decode cL_law 886 = .ok (.iaload, 1) := by decide +kernel
theorem dL_law_887 : decode cL_law 887 = .ok (.aload_n 3, 1) := by decide +kernel
theorem dL_law_888 : decode cL_law 888 = .ok (.invokestatic 139, 3) := by decide +kernel
theorem dL_law_891 : decode cL_law 891 = .ok (.istore 5, 2) := by decide +kernel
theorem dL_law_893 : decode cL_law 893 = .ok (.aload_n 2, 1) := by decide +kernel
theorem dL_law_894 : decode cL_law 894 = .ok (.aload_n 0, 1) := by decide +kernel
theorem dL_law_895 : decode cL_law 895 = .ok (.iload 4, 2) := by decide +kernel
theorem dL_law_897 : decode cL_law 897 = .ok (.iconst 1, 1) := by decide +kernel
theorem dL_law_898 : decode cL_law 898 = .ok (.iadd, 1) := by decide +kernel
theorem dL_law_899 : decode cL_law 899 = .ok (.iaload, 1) := by decide +kernel
theorem dL_law_900 : decode cL_law 900 = .ok (.aload_n 0, 1) := by decide +kernel
theorem dL_law_901 : decode cL_law 901 = .ok (.iload 4, 2) := by decide +kernel
theorem dL_law_903 : decode cL_law 903 = .ok (.iconst 2, 1) := by decide +kernel
theorem dL_law_904 : decode cL_law 904 = .ok (.iadd, 1) := by decide +kernel
theorem dL_law_905 : decode cL_law 905 = .ok (.iaload, 1) := by decide +kernel
theorem dL_law_906 : decode cL_law 906 = .ok (.invokevirtual 141, 3) := by decide +kernel
theorem dL_law_909 : decode cL_law 909 = .ok (.istore 6, 2) := by decide +kernel
theorem dL_law_911 : decode cL_law 911 = .ok (.aload_n 2, 1) := by decide +kernel
theorem dL_law_912 : decode cL_law 912 = .ok (.invokevirtual 95, 3) := by decide +kernel
theorem dL_law_915 : decode cL_law 915 = .ok (.iload 5, 2) := by decide +kernel
theorem dL_law_917 : decode cL_law 917 = .ok (.if_icmp .eq 5, 3) := by decide +kernel
theorem dL_law_920 : decode cL_law 920 = .ok (.iconst 0, 1) := by decide +kernel
theorem dL_law_921 : decode cL_law 921 = .ok (.ireturn, 1) := by decide +kernel
theorem dL_law_922 : decode cL_law 922 = .ok (.iload 5, 2) := by decide +kernel
theorem dL_law_924 : decode cL_law 924 = .ok (.ifCond .ne 15, 3) := by decide +kernel
theorem dL_law_927 : decode cL_law 927 = .ok (.aload_n 3, 1) := by decide +kernel
theorem dL_law_928 : decode cL_law 928 = .ok (.iconst 0, 1) := by decide +kernel
theorem dL_law_929 : decode cL_law 929 = .ok (.laload, 1) := by decide +kernel
theorem dL_law_930 : decode cL_law 930 = .ok (.iload 6, 2) := by decide +kernel
theorem dL_law_932 : decode cL_law 932 = .ok (.i2l, 1) := by decide +kernel
theorem dL_law_933 : decode cL_law 933 = .ok (.lcmp, 1) := by decide +kernel
theorem dL_law_934 : decode cL_law 934 = .ok (.ifCond .eq 5, 3) := by decide +kernel
theorem dL_law_937 : decode cL_law 937 = .ok (.iconst 0, 1) := by decide +kernel
theorem dL_law_938 : decode cL_law 938 = .ok (.ireturn, 1) := by decide +kernel
theorem dL_law_939 : decode cL_law 939 = .ok (.goto 738, 3) := by decide +kernel
theorem dL_law_942 : decode cL_law 942 = .ok (.aload_n 1, 1) := by decide +kernel
theorem dL_law_943 : decode cL_law 943 = .ok (.aload_n 0, 1) := by decide +kernel
theorem dL_law_944 : decode cL_law 944 = .ok (.iload 4, 2) := by decide +kernel
theorem dL_law_946 : decode cL_law 946 = .ok (.iconst 1, 1) := by decide +kernel
theorem dL_law_947 : decode cL_law 947 = .ok (.iadd, 1) := by decide +kernel
theorem dL_law_948 : decode cL_law 948 = .ok (.iaload, 1) := by decide +kernel
theorem dL_law_949 : decode cL_law 949 = .ok (.aload_n 3, 1) := by decide +kernel
theorem dL_law_950 : decode cL_law 950 = .ok (.invokestatic 142, 3) := by decide +kernel
theorem dL_law_953 : decode cL_law 953 = .ok (.istore 5, 2) := by decide +kernel
theorem dL_law_955 : decode cL_law 955 = .ok (.aload_n 2, 1) := by decide +kernel
theorem dL_law_956 : decode cL_law 956 = .ok (.aload_n 0, 1) := by decide +kernel
theorem dL_law_957 : decode cL_law 957 = .ok (.iload 4, 2) := by decide +kernel
theorem dL_law_959 : decode cL_law 959 = .ok (.iconst 1, 1) := by decide +kernel
theorem dL_law_960 : decode cL_law 960 = .ok (.iadd, 1) := by decide +kernel
theorem dL_law_961 : decode cL_law 961 = .ok (.iaload, 1) := by decide +kernel
theorem dL_law_962 : decode cL_law 962 = .ok (.invokevirtual 144, 3) := by decide +kernel
theorem dL_law_965 : decode cL_law 965 = .ok (.istore 6, 2) := by decide +kernel
theorem dL_law_967 : decode cL_law 967 = .ok (.aload_n 2, 1) := by decide +kernel
theorem dL_law_968 : decode cL_law 968 = .ok (.invokevirtual 95, 3) := by decide +kernel
theorem dL_law_971 : decode cL_law 971 = .ok (.iload 5, 2) := by decide +kernel
theorem dL_law_973 : decode cL_law 973 = .ok (.if_icmp .eq 5, 3) := by decide +kernel
theorem dL_law_976 : decode cL_law 976 = .ok (.iconst 0, 1) := by decide +kernel
theorem dL_law_977 : decode cL_law 977 = .ok (.ireturn, 1) := by decide +kernel
theorem dL_law_978 : decode cL_law 978 = .ok (.iload 5, 2) := by decide +kernel
theorem dL_law_980 : decode cL_law 980 = .ok (.ifCond .ne 15, 3) := by decide +kernel
theorem dL_law_983 : decode cL_law 983 = .ok (.aload_n 3, 1) := by decide +kernel
theorem dL_law_984 : decode cL_law 984 = .ok (.iconst 0, 1) := by decide +kernel
theorem dL_law_985 : decode cL_law 985 = .ok (.laload, 1) := by decide +kernel
theorem dL_law_986 : decode cL_law 986 = .ok (.iload 6, 2) := by decide +kernel
theorem dL_law_988 : decode cL_law 988 = .ok (.i2l, 1) := by decide +kernel
theorem dL_law_989 : decode cL_law 989 = .ok (.lcmp, 1) := by decide +kernel
theorem dL_law_990 : decode cL_law 990 = .ok (.ifCond .eq 5, 3) := by decide +kernel
theorem dL_law_993 : decode cL_law 993 = .ok (.iconst 0, 1) := by decide +kernel
theorem dL_law_994 : decode cL_law 994 = .ok (.ireturn, 1) := by decide +kernel
theorem dL_law_995 : decode cL_law 995 = .ok (.goto 682, 3) := by decide +kernel
theorem dL_law_998 : decode cL_law 998 = .ok (.aload_n 1, 1) := by decide +kernel
theorem dL_law_999 : decode cL_law 999 = .ok (.aload_n 0, 1) := by decide +kernel
theorem dL_law_1000 : decode cL_law 1000 = .ok (.iload 4, 2) := by decide +kernel
theorem dL_law_1002 : decode cL_law 1002 = .ok (.iconst 1, 1) := by decide +kernel
theorem dL_law_1003 : decode cL_law 1003 = .ok (.iadd, 1) := by decide +kernel
theorem dL_law_1004 : decode cL_law 1004 = .ok (.iaload, 1) := by decide +kernel
theorem dL_law_1005 : decode cL_law 1005 = .ok (.aload_n 0, 1) := by decide +kernel
theorem dL_law_1006 : decode cL_law 1006 = .ok (.iload 4, 2) := by decide +kernel
theorem dL_law_1008 : decode cL_law 1008 = .ok (.iconst 2, 1) := by decide +kernel
theorem dL_law_1009 : decode cL_law 1009 = .ok (.iadd, 1) := by decide +kernel
theorem dL_law_1010 : decode cL_law 1010 = .ok (.iaload, 1) := by decide +kernel
theorem dL_law_1011 : decode cL_law 1011 = .ok (.aload_n 0, 1) := by decide +kernel
theorem dL_law_1012 : decode cL_law 1012 = .ok (.iload 4, 2) := by decide +kernel
theorem dL_law_1014 : decode cL_law 1014 = .ok (.iconst 3, 1) := by decide +kernel
theorem dL_law_1015 : decode cL_law 1015 = .ok (.iadd, 1) := by decide +kernel
theorem dL_law_1016 : decode cL_law 1016 = .ok (.iaload, 1) := by decide +kernel
theorem dL_law_1017 : decode cL_law 1017 = .ok (.aload_n 0, 1) := by decide +kernel
theorem dL_law_1018 : decode cL_law 1018 = .ok (.iload 4, 2) := by decide +kernel
theorem dL_law_1020 : decode cL_law 1020 = .ok (.iconst 4, 1) := by decide +kernel
theorem dL_law_1021 : decode cL_law 1021 = .ok (.iadd, 1) := by decide +kernel
theorem dL_law_1022 : decode cL_law 1022 = .ok (.iaload, 1) := by decide +kernel
theorem dL_law_1023 : decode cL_law 1023 = .ok (.aload_n 3, 1) := by decide +kernel
theorem dL_law_1024 : decode cL_law 1024 = .ok (.invokestatic 145, 3) := by decide +kernel
theorem dL_law_1027 : decode cL_law 1027 = .ok (.istore 5, 2) := by decide +kernel
theorem dL_law_1029 : decode cL_law 1029 = .ok (.aload_n 2, 1) := by decide +kernel
theorem dL_law_1030 : decode cL_law 1030 = .ok (.aload_n 0, 1) := by decide +kernel
theorem dL_law_1031 : decode cL_law 1031 = .ok (.iload 4, 2) := by decide +kernel
theorem dL_law_1033 : decode cL_law 1033 = .ok (.iconst 1, 1) := by decide +kernel
theorem dL_law_1034 : decode cL_law 1034 = .ok (.iadd, 1) := by decide +kernel
theorem dL_law_1035 : decode cL_law 1035 = .ok (.iaload, 1) := by decide +kernel
theorem dL_law_1036 : decode cL_law 1036 = .ok (.aload_n 0, 1) := by decide +kernel
theorem dL_law_1037 : decode cL_law 1037 = .ok (.iload 4, 2) := by decide +kernel
theorem dL_law_1039 : decode cL_law 1039 = .ok (.iconst 2, 1) := by decide +kernel
theorem dL_law_1040 : decode cL_law 1040 = .ok (.iadd, 1) := by decide +kernel
theorem dL_law_1041 : decode cL_law 1041 = .ok (.iaload, 1) := by decide +kernel
theorem dL_law_1042 : decode cL_law 1042 = .ok (.aload_n 0, 1) := by decide +kernel
theorem dL_law_1043 : decode cL_law 1043 = .ok (.iload 4, 2) := by decide +kernel
theorem dL_law_1045 : decode cL_law 1045 = .ok (.iconst 3, 1) := by decide +kernel
theorem dL_law_1046 : decode cL_law 1046 = .ok (.iadd, 1) := by decide +kernel
theorem dL_law_1047 : decode cL_law 1047 = .ok (.iaload, 1) := by decide +kernel
theorem dL_law_1048 : decode cL_law 1048 = .ok (.aload_n 0, 1) := by decide +kernel
theorem dL_law_1049 : decode cL_law 1049 = .ok (.iload 4, 2) := by decide +kernel
theorem dL_law_1051 : decode cL_law 1051 = .ok (.iconst 4, 1) := by decide +kernel
theorem dL_law_1052 : decode cL_law 1052 = .ok (.iadd, 1) := by decide +kernel
theorem dL_law_1053 : decode cL_law 1053 = .ok (.iaload, 1) := by decide +kernel
theorem dL_law_1054 : decode cL_law 1054 = .ok (.invokevirtual 148, 3) := by decide +kernel
theorem dL_law_1057 : decode cL_law 1057 = .ok (.istore 6, 2) := by decide +kernel
theorem dL_law_1059 : decode cL_law 1059 = .ok (.aload_n 2, 1) := by decide +kernel
theorem dL_law_1060 : decode cL_law 1060 = .ok (.invokevirtual 95, 3) := by decide +kernel
theorem dL_law_1063 : decode cL_law 1063 = .ok (.iload 5, 2) := by decide +kernel
theorem dL_law_1065 : decode cL_law 1065 = .ok (.if_icmp .eq 5, 3) := by decide +kernel
theorem dL_law_1068 : decode cL_law 1068 = .ok (.iconst 0, 1) := by decide +kernel
theorem dL_law_1069 : decode cL_law 1069 = .ok (.ireturn, 1) := by decide +kernel
theorem dL_law_1070 : decode cL_law 1070 = .ok (.iload 5, 2) := by decide +kernel
theorem dL_law_1072 : decode cL_law 1072 = .ok (.ifCond .ne 15, 3) := by decide +kernel
theorem dL_law_1075 : decode cL_law 1075 = .ok (.aload_n 3, 1) := by decide +kernel
theorem dL_law_1076 : decode cL_law 1076 = .ok (.iconst 0, 1) := by decide +kernel
theorem dL_law_1077 : decode cL_law 1077 = .ok (.laload, 1) := by decide +kernel
theorem dL_law_1078 : decode cL_law 1078 = .ok (.iload 6, 2) := by decide +kernel
theorem dL_law_1080 : decode cL_law 1080 = .ok (.i2l, 1) := by decide +kernel
theorem dL_law_1081 : decode cL_law 1081 = .ok (.lcmp, 1) := by decide +kernel
theorem dL_law_1082 : decode cL_law 1082 = .ok (.ifCond .eq 5, 3) := by decide +kernel
theorem dL_law_1085 : decode cL_law 1085 = .ok (.iconst 0, 1) := by decide +kernel
theorem dL_law_1086 : decode cL_law 1086 = .ok (.ireturn, 1) := by decide +kernel
theorem dL_law_1087 : decode cL_law 1087 = .ok (.goto 590, 3) := by decide +kernel
theorem dL_law_1090 : decode cL_law 1090 = .ok (.aload_n 1, 1) := by decide +kernel
theorem dL_law_1091 : decode cL_law 1091 = .ok (.aload_n 0, 1) := by decide +kernel
theorem dL_law_1092 : decode cL_law 1092 = .ok (.iload 4, 2) := by decide +kernel
theorem dL_law_1094 : decode cL_law 1094 = .ok (.iconst 1, 1) := by decide +kernel
theorem dL_law_1095 : decode cL_law 1095 = .ok (.iadd, 1) := by decide +kernel
theorem dL_law_1096 : decode cL_law 1096 = .ok (.iaload, 1) := by decide +kernel
theorem dL_law_1097 : decode cL_law 1097 = .ok (.aload_n 0, 1) := by decide +kernel
theorem dL_law_1098 : decode cL_law 1098 = .ok (.iload 4, 2) := by decide +kernel
theorem dL_law_1100 : decode cL_law 1100 = .ok (.iconst 2, 1) := by decide +kernel
theorem dL_law_1101 : decode cL_law 1101 = .ok (.iadd, 1) := by decide +kernel
theorem dL_law_1102 : decode cL_law 1102 = .ok (.iaload, 1) := by decide +kernel
theorem dL_law_1103 : decode cL_law 1103 = .ok (.aload_n 0, 1) := by decide +kernel
theorem dL_law_1104 : decode cL_law 1104 = .ok (.iload 4, 2) := by decide +kernel
theorem dL_law_1106 : decode cL_law 1106 = .ok (.iconst 3, 1) := by decide +kernel
theorem dL_law_1107 : decode cL_law 1107 = .ok (.iadd, 1) := by decide +kernel
theorem dL_law_1108 : decode cL_law 1108 = .ok (.iaload, 1) := by decide +kernel
theorem dL_law_1109 : decode cL_law 1109 = .ok (.aload_n 0, 1) := by decide +kernel
theorem dL_law_1110 : decode cL_law 1110 = .ok (.iload 4, 2) := by decide +kernel
theorem dL_law_1112 : decode cL_law 1112 = .ok (.iconst 4, 1) := by decide +kernel
theorem dL_law_1113 : decode cL_law 1113 = .ok (.iadd, 1) := by decide +kernel
theorem dL_law_1114 : decode cL_law 1114 = .ok (.iaload, 1) := by decide +kernel
theorem dL_law_1115 : decode cL_law 1115 = .ok (.aload_n 3, 1) := by decide +kernel
theorem dL_law_1116 : decode cL_law 1116 = .ok (.invokestatic 149, 3) := by decide +kernel
theorem dL_law_1119 : decode cL_law 1119 = .ok (.istore 5, 2) := by decide +kernel
theorem dL_law_1121 : decode cL_law 1121 = .ok (.aload_n 2, 1) := by decide +kernel
theorem dL_law_1122 : decode cL_law 1122 = .ok (.aload_n 0, 1) := by decide +kernel
theorem dL_law_1123 : decode cL_law 1123 = .ok (.iload 4, 2) := by decide +kernel
theorem dL_law_1125 : decode cL_law 1125 = .ok (.iconst 1, 1) := by decide +kernel
theorem dL_law_1126 : decode cL_law 1126 = .ok (.iadd, 1) := by decide +kernel
theorem dL_law_1127 : decode cL_law 1127 = .ok (.iaload, 1) := by decide +kernel
theorem dL_law_1128 : decode cL_law 1128 = .ok (.aload_n 0, 1) := by decide +kernel
theorem dL_law_1129 : decode cL_law 1129 = .ok (.iload 4, 2) := by decide +kernel
theorem dL_law_1131 : decode cL_law 1131 = .ok (.iconst 2, 1) := by decide +kernel
theorem dL_law_1132 : decode cL_law 1132 = .ok (.iadd, 1) := by decide +kernel
theorem dL_law_1133 : decode cL_law 1133 = .ok (.iaload, 1) := by decide +kernel
theorem dL_law_1134 : decode cL_law 1134 = .ok (.aload_n 0, 1) := by decide +kernel
theorem dL_law_1135 : decode cL_law 1135 = .ok (.iload 4, 2) := by decide +kernel
theorem dL_law_1137 : decode cL_law 1137 = .ok (.iconst 3, 1) := by decide +kernel
theorem dL_law_1138 : decode cL_law 1138 = .ok (.iadd, 1) := by decide +kernel
theorem dL_law_1139 : decode cL_law 1139 = .ok (.iaload, 1) := by decide +kernel
theorem dL_law_1140 : decode cL_law 1140 = .ok (.aload_n 0, 1) := by decide +kernel
theorem dL_law_1141 : decode cL_law 1141 = .ok (.iload 4, 2) := by decide +kernel
theorem dL_law_1143 : decode cL_law 1143 = .ok (.iconst 4, 1) := by decide +kernel
theorem dL_law_1144 : decode cL_law 1144 = .ok (.iadd, 1) := by decide +kernel
theorem dL_law_1145 : decode cL_law 1145 = .ok (.iaload, 1) := by decide +kernel
theorem dL_law_1146 : decode cL_law 1146 = .ok (.invokevirtual 151, 3) := by decide +kernel
theorem dL_law_1149 : decode cL_law 1149 = .ok (.istore 6, 2) := by decide +kernel
theorem dL_law_1151 : decode cL_law 1151 = .ok (.aload_n 2, 1) := by decide +kernel
theorem dL_law_1152 : decode cL_law 1152 = .ok (.invokevirtual 95, 3) := by decide +kernel
theorem dL_law_1155 : decode cL_law 1155 = .ok (.iload 5, 2) := by decide +kernel
theorem dL_law_1157 : decode cL_law 1157 = .ok (.if_icmp .eq 5, 3) := by decide +kernel
theorem dL_law_1160 : decode cL_law 1160 = .ok (.iconst 0, 1) := by decide +kernel
theorem dL_law_1161 : decode cL_law 1161 = .ok (.ireturn, 1) := by decide +kernel
theorem dL_law_1162 : decode cL_law 1162 = .ok (.iload 5, 2) := by decide +kernel
theorem dL_law_1164 : decode cL_law 1164 = .ok (.ifCond .ne 22, 3) := by decide +kernel
theorem dL_law_1167 : decode cL_law 1167 = .ok (.aload_n 3, 1) := by decide +kernel
theorem dL_law_1168 : decode cL_law 1168 = .ok (.iconst 0, 1) := by decide +kernel
theorem dL_law_1169 : decode cL_law 1169 = .ok (.laload, 1) := by decide +kernel
theorem dL_law_1170 : decode cL_law 1170 = .ok (.iload 6, 2) := by decide +kernel
theorem dL_law_1172 : decode cL_law 1172 = .ok (.ifCond .eq 7, 3) := by decide +kernel
theorem dL_law_1175 : decode cL_law 1175 = .ok (.lconst 1, 1) := by decide +kernel
theorem dL_law_1176 : decode cL_law 1176 = .ok (.goto 4, 3) := by decide +kernel
theorem dL_law_1179 : decode cL_law 1179 = .ok (.lconst 0, 1) := by decide +kernel
theorem dL_law_1180 : decode cL_law 1180 = .ok (.lcmp, 1) := by decide +kernel
theorem dL_law_1181 : decode cL_law 1181 = .ok (.ifCond .eq 5, 3) := by decide +kernel
theorem dL_law_1184 : decode cL_law 1184 = .ok (.iconst 0, 1) := by decide +kernel
theorem dL_law_1185 : decode cL_law 1185 = .ok (.ireturn, 1) := by decide +kernel
theorem dL_law_1186 : decode cL_law 1186 = .ok (.goto 491, 3) := by decide +kernel
theorem dL_law_1189 : decode cL_law 1189 = .ok (.aload_n 1, 1) := by decide +kernel
theorem dL_law_1190 : decode cL_law 1190 = .ok (.aload_n 0, 1) := by decide +kernel
theorem dL_law_1191 : decode cL_law 1191 = .ok (.iload 4, 2) := by decide +kernel
theorem dL_law_1193 : decode cL_law 1193 = .ok (.iconst 1, 1) := by decide +kernel
theorem dL_law_1194 : decode cL_law 1194 = .ok (.iadd, 1) := by decide +kernel
theorem dL_law_1195 : decode cL_law 1195 = .ok (.iaload, 1) := by decide +kernel
theorem dL_law_1196 : decode cL_law 1196 = .ok (.aload_n 0, 1) := by decide +kernel
theorem dL_law_1197 : decode cL_law 1197 = .ok (.iload 4, 2) := by decide +kernel
theorem dL_law_1199 : decode cL_law 1199 = .ok (.iconst 2, 1) := by decide +kernel
theorem dL_law_1200 : decode cL_law 1200 = .ok (.iadd, 1) := by decide +kernel
theorem dL_law_1201 : decode cL_law 1201 = .ok (.iaload, 1) := by decide +kernel
theorem dL_law_1202 : decode cL_law 1202 = .ok (.aload_n 0, 1) := by decide +kernel
theorem dL_law_1203 : decode cL_law 1203 = .ok (.iload 4, 2) := by decide +kernel
theorem dL_law_1205 : decode cL_law 1205 = .ok (.iconst 3, 1) := by decide +kernel
theorem dL_law_1206 : decode cL_law 1206 = .ok (.iadd, 1) := by decide +kernel
theorem dL_law_1207 : decode cL_law 1207 = .ok (.iaload, 1) := by decide +kernel
theorem dL_law_1208 : decode cL_law 1208 = .ok (.aload_n 3, 1) := by decide +kernel
theorem dL_law_1209 : decode cL_law 1209 = .ok (.invokestatic 152, 3) := by decide +kernel
theorem dL_law_1212 : decode cL_law 1212 = .ok (.istore 5, 2) := by decide +kernel
theorem dL_law_1214 : decode cL_law 1214 = .ok (.aload_n 2, 1) := by decide +kernel
theorem dL_law_1215 : decode cL_law 1215 = .ok (.aload_n 0, 1) := by decide +kernel
theorem dL_law_1216 : decode cL_law 1216 = .ok (.iload 4, 2) := by decide +kernel
theorem dL_law_1218 : decode cL_law 1218 = .ok (.iconst 1, 1) := by decide +kernel
theorem dL_law_1219 : decode cL_law 1219 = .ok (.iadd, 1) := by decide +kernel
theorem dL_law_1220 : decode cL_law 1220 = .ok (.iaload, 1) := by decide +kernel
theorem dL_law_1221 : decode cL_law 1221 = .ok (.aload_n 0, 1) := by decide +kernel
theorem dL_law_1222 : decode cL_law 1222 = .ok (.iload 4, 2) := by decide +kernel
theorem dL_law_1224 : decode cL_law 1224 = .ok (.iconst 2, 1) := by decide +kernel
theorem dL_law_1225 : decode cL_law 1225 = .ok (.iadd, 1) := by decide +kernel
theorem dL_law_1226 : decode cL_law 1226 = .ok (.iaload, 1) := by decide +kernel
theorem dL_law_1227 : decode cL_law 1227 = .ok (.aload_n 0, 1) := by decide +kernel
theorem dL_law_1228 : decode cL_law 1228 = .ok (.iload 4, 2) := by decide +kernel
theorem dL_law_1230 : decode cL_law 1230 = .ok (.iconst 3, 1) := by decide +kernel
theorem dL_law_1231 : decode cL_law 1231 = .ok (.iadd, 1) := by decide +kernel
theorem dL_law_1232 : decode cL_law 1232 = .ok (.iaload, 1) := by decide +kernel
theorem dL_law_1233 : decode cL_law 1233 = .ok (.invokevirtual 154, 3) := by decide +kernel
theorem dL_law_1236 : decode cL_law 1236 = .ok (.istore 6, 2) := by decide +kernel
theorem dL_law_1238 : decode cL_law 1238 = .ok (.aload_n 2, 1) := by decide +kernel
theorem dL_law_1239 : decode cL_law 1239 = .ok (.invokevirtual 95, 3) := by decide +kernel
theorem dL_law_1242 : decode cL_law 1242 = .ok (.iload 5, 2) := by decide +kernel
theorem dL_law_1244 : decode cL_law 1244 = .ok (.if_icmp .eq 5, 3) := by decide +kernel
theorem dL_law_1247 : decode cL_law 1247 = .ok (.iconst 0, 1) := by decide +kernel
theorem dL_law_1248 : decode cL_law 1248 = .ok (.ireturn, 1) := by decide +kernel
theorem dL_law_1249 : decode cL_law 1249 = .ok (.iload 5, 2) := by decide +kernel
theorem dL_law_1251 : decode cL_law 1251 = .ok (.ifCond .ne 15, 3) := by decide +kernel
theorem dL_law_1254 : decode cL_law 1254 = .ok (.aload_n 3, 1) := by decide +kernel
theorem dL_law_1255 : decode cL_law 1255 = .ok (.iconst 0, 1) := by decide +kernel
theorem dL_law_1256 : decode cL_law 1256 = .ok (.laload, 1) := by decide +kernel
theorem dL_law_1257 : decode cL_law 1257 = .ok (.iload 6, 2) := by decide +kernel
theorem dL_law_1259 : decode cL_law 1259 = .ok (.i2l, 1) := by decide +kernel
theorem dL_law_1260 : decode cL_law 1260 = .ok (.lcmp, 1) := by decide +kernel
theorem dL_law_1261 : decode cL_law 1261 = .ok (.ifCond .eq 5, 3) := by decide +kernel
theorem dL_law_1264 : decode cL_law 1264 = .ok (.iconst 0, 1) := by decide +kernel
theorem dL_law_1265 : decode cL_law 1265 = .ok (.ireturn, 1) := by decide +kernel
theorem dL_law_1266 : decode cL_law 1266 = .ok (.goto 411, 3) := by decide +kernel
theorem dL_law_1269 : decode cL_law 1269 = .ok (.aload_n 1, 1) := by decide +kernel
theorem dL_law_1270 : decode cL_law 1270 = .ok (.aload_n 0, 1) := by decide +kernel
theorem dL_law_1271 : decode cL_law 1271 = .ok (.iload 4, 2) := by decide +kernel
theorem dL_law_1273 : decode cL_law 1273 = .ok (.iconst 1, 1) := by decide +kernel
theorem dL_law_1274 : decode cL_law 1274 = .ok (.iadd, 1) := by decide +kernel
theorem dL_law_1275 : decode cL_law 1275 = .ok (.iaload, 1) := by decide +kernel
theorem dL_law_1276 : decode cL_law 1276 = .ok (.aload_n 0, 1) := by decide +kernel
theorem dL_law_1277 : decode cL_law 1277 = .ok (.iload 4, 2) := by decide +kernel
theorem dL_law_1279 : decode cL_law 1279 = .ok (.iconst 2, 1) := by decide +kernel
theorem dL_law_1280 : decode cL_law 1280 = .ok (.iadd, 1) := by decide +kernel
theorem dL_law_1281 : decode cL_law 1281 = .ok (.iaload, 1) := by decide +kernel
theorem dL_law_1282 : decode cL_law 1282 = .ok (.aload_n 0, 1) := by decide +kernel
theorem dL_law_1283 : decode cL_law 1283 = .ok (.iload 4, 2) := by decide +kernel
theorem dL_law_1285 : decode cL_law 1285 = .ok (.iconst 3, 1) := by decide +kernel
theorem dL_law_1286 : decode cL_law 1286 = .ok (.iadd, 1) := by decide +kernel
theorem dL_law_1287 : decode cL_law 1287 = .ok (.iaload, 1) := by decide +kernel
theorem dL_law_1288 : decode cL_law 1288 = .ok (.aload_n 3, 1) := by decide +kernel
theorem dL_law_1289 : decode cL_law 1289 = .ok (.invokestatic 155, 3) := by decide +kernel
theorem dL_law_1292 : decode cL_law 1292 = .ok (.istore 5, 2) := by decide +kernel
theorem dL_law_1294 : decode cL_law 1294 = .ok (.aload_n 2, 1) := by decide +kernel
theorem dL_law_1295 : decode cL_law 1295 = .ok (.aload_n 0, 1) := by decide +kernel
theorem dL_law_1296 : decode cL_law 1296 = .ok (.iload 4, 2) := by decide +kernel
theorem dL_law_1298 : decode cL_law 1298 = .ok (.iconst 1, 1) := by decide +kernel
theorem dL_law_1299 : decode cL_law 1299 = .ok (.iadd, 1) := by decide +kernel
theorem dL_law_1300 : decode cL_law 1300 = .ok (.iaload, 1) := by decide +kernel
theorem dL_law_1301 : decode cL_law 1301 = .ok (.aload_n 0, 1) := by decide +kernel
theorem dL_law_1302 : decode cL_law 1302 = .ok (.iload 4, 2) := by decide +kernel
theorem dL_law_1304 : decode cL_law 1304 = .ok (.iconst 2, 1) := by decide +kernel
theorem dL_law_1305 : decode cL_law 1305 = .ok (.iadd, 1) := by decide +kernel
theorem dL_law_1306 : decode cL_law 1306 = .ok (.iaload, 1) := by decide +kernel
theorem dL_law_1307 : decode cL_law 1307 = .ok (.aload_n 0, 1) := by decide +kernel
theorem dL_law_1308 : decode cL_law 1308 = .ok (.iload 4, 2) := by decide +kernel
theorem dL_law_1310 : decode cL_law 1310 = .ok (.iconst 3, 1) := by decide +kernel
theorem dL_law_1311 : decode cL_law 1311 = .ok (.iadd, 1) := by decide +kernel
theorem dL_law_1312 : decode cL_law 1312 = .ok (.iaload, 1) := by decide +kernel
theorem dL_law_1313 : decode cL_law 1313 = .ok (.invokevirtual 157, 3) := by decide +kernel
theorem dL_law_1316 : decode cL_law 1316 = .ok (.istore 6, 2) := by decide +kernel
theorem dL_law_1318 : decode cL_law 1318 = .ok (.aload_n 2, 1) := by decide +kernel
theorem dL_law_1319 : decode cL_law 1319 = .ok (.invokevirtual 95, 3) := by decide +kernel
theorem dL_law_1322 : decode cL_law 1322 = .ok (.iload 5, 2) := by decide +kernel
theorem dL_law_1324 : decode cL_law 1324 = .ok (.if_icmp .eq 5, 3) := by decide +kernel
theorem dL_law_1327 : decode cL_law 1327 = .ok (.iconst 0, 1) := by decide +kernel
theorem dL_law_1328 : decode cL_law 1328 = .ok (.ireturn, 1) := by decide +kernel
theorem dL_law_1329 : decode cL_law 1329 = .ok (.iload 5, 2) := by decide +kernel
theorem dL_law_1331 : decode cL_law 1331 = .ok (.ifCond .ne 15, 3) := by decide +kernel
theorem dL_law_1334 : decode cL_law 1334 = .ok (.aload_n 3, 1) := by decide +kernel
theorem dL_law_1335 : decode cL_law 1335 = .ok (.iconst 0, 1) := by decide +kernel
theorem dL_law_1336 : decode cL_law 1336 = .ok (.laload, 1) := by decide +kernel
theorem dL_law_1337 : decode cL_law 1337 = .ok (.iload 6, 2) := by decide +kernel
theorem dL_law_1339 : decode cL_law 1339 = .ok (.i2l, 1) := by decide +kernel
theorem dL_law_1340 : decode cL_law 1340 = .ok (.lcmp, 1) := by decide +kernel
theorem dL_law_1341 : decode cL_law 1341 = .ok (.ifCond .eq 5, 3) := by decide +kernel
theorem dL_law_1344 : decode cL_law 1344 = .ok (.iconst 0, 1) := by decide +kernel
theorem dL_law_1345 : decode cL_law 1345 = .ok (.ireturn, 1) := by decide +kernel
theorem dL_law_1346 : decode cL_law 1346 = .ok (.goto 331, 3) := by decide +kernel
theorem dL_law_1349 : decode cL_law 1349 = .ok (.aload_n 1, 1) := by decide +kernel
theorem dL_law_1350 : decode cL_law 1350 = .ok (.aload_n 0, 1) := by decide +kernel
theorem dL_law_1351 : decode cL_law 1351 = .ok (.iload 4, 2) := by decide +kernel
theorem dL_law_1353 : decode cL_law 1353 = .ok (.iconst 1, 1) := by decide +kernel
theorem dL_law_1354 : decode cL_law 1354 = .ok (.iadd, 1) := by decide +kernel
theorem dL_law_1355 : decode cL_law 1355 = .ok (.iaload, 1) := by decide +kernel
theorem dL_law_1356 : decode cL_law 1356 = .ok (.aload_n 0, 1) := by decide +kernel
theorem dL_law_1357 : decode cL_law 1357 = .ok (.iload 4, 2) := by decide +kernel
theorem dL_law_1359 : decode cL_law 1359 = .ok (.iconst 2, 1) := by decide +kernel
theorem dL_law_1360 : decode cL_law 1360 = .ok (.iadd, 1) := by decide +kernel
theorem dL_law_1361 : decode cL_law 1361 = .ok (.iaload, 1) := by decide +kernel
theorem dL_law_1362 : decode cL_law 1362 = .ok (.aload_n 0, 1) := by decide +kernel
theorem dL_law_1363 : decode cL_law 1363 = .ok (.iload 4, 2) := by decide +kernel
theorem dL_law_1365 : decode cL_law 1365 = .ok (.iconst 3, 1) := by decide +kernel
theorem dL_law_1366 : decode cL_law 1366 = .ok (.iadd, 1) := by decide +kernel
theorem dL_law_1367 : decode cL_law 1367 = .ok (.iaload, 1) := by decide +kernel
theorem dL_law_1368 : decode cL_law 1368 = .ok (.aload_n 3, 1) := by decide +kernel
theorem dL_law_1369 : decode cL_law 1369 = .ok (.invokestatic 158, 3) := by decide +kernel
theorem dL_law_1372 : decode cL_law 1372 = .ok (.istore 5, 2) := by decide +kernel
theorem dL_law_1374 : decode cL_law 1374 = .ok (.aload_n 2, 1) := by decide +kernel
theorem dL_law_1375 : decode cL_law 1375 = .ok (.aload_n 0, 1) := by decide +kernel
theorem dL_law_1376 : decode cL_law 1376 = .ok (.iload 4, 2) := by decide +kernel
theorem dL_law_1378 : decode cL_law 1378 = .ok (.iconst 1, 1) := by decide +kernel
theorem dL_law_1379 : decode cL_law 1379 = .ok (.iadd, 1) := by decide +kernel
theorem dL_law_1380 : decode cL_law 1380 = .ok (.iaload, 1) := by decide +kernel
theorem dL_law_1381 : decode cL_law 1381 = .ok (.aload_n 0, 1) := by decide +kernel
theorem dL_law_1382 : decode cL_law 1382 = .ok (.iload 4, 2) := by decide +kernel
theorem dL_law_1384 : decode cL_law 1384 = .ok (.iconst 2, 1) := by decide +kernel
theorem dL_law_1385 : decode cL_law 1385 = .ok (.iadd, 1) := by decide +kernel
theorem dL_law_1386 : decode cL_law 1386 = .ok (.iaload, 1) := by decide +kernel
theorem dL_law_1387 : decode cL_law 1387 = .ok (.aload_n 0, 1) := by decide +kernel
theorem dL_law_1388 : decode cL_law 1388 = .ok (.iload 4, 2) := by decide +kernel
theorem dL_law_1390 : decode cL_law 1390 = .ok (.iconst 3, 1) := by decide +kernel
theorem dL_law_1391 : decode cL_law 1391 = .ok (.iadd, 1) := by decide +kernel
theorem dL_law_1392 : decode cL_law 1392 = .ok (.iaload, 1) := by decide +kernel
theorem dL_law_1393 : decode cL_law 1393 = .ok (.invokevirtual 160, 3) := by decide +kernel
theorem dL_law_1396 : decode cL_law 1396 = .ok (.istore 6, 2) := by decide +kernel
theorem dL_law_1398 : decode cL_law 1398 = .ok (.aload_n 2, 1) := by decide +kernel
theorem dL_law_1399 : decode cL_law 1399 = .ok (.invokevirtual 95, 3) := by decide +kernel
theorem dL_law_1402 : decode cL_law 1402 = .ok (.iload 5, 2) := by decide +kernel
theorem dL_law_1404 : decode cL_law 1404 = .ok (.if_icmp .eq 5, 3) := by decide +kernel
theorem dL_law_1407 : decode cL_law 1407 = .ok (.iconst 0, 1) := by decide +kernel
theorem dL_law_1408 : decode cL_law 1408 = .ok (.ireturn, 1) := by decide +kernel
theorem dL_law_1409 : decode cL_law 1409 = .ok (.iload 5, 2) := by decide +kernel
theorem dL_law_1411 : decode cL_law 1411 = .ok (.ifCond .ne 15, 3) := by decide +kernel
theorem dL_law_1414 : decode cL_law 1414 = .ok (.aload_n 3, 1) := by decide +kernel
theorem dL_law_1415 : decode cL_law 1415 = .ok (.iconst 0, 1) := by decide +kernel
theorem dL_law_1416 : decode cL_law 1416 = .ok (.laload, 1) := by decide +kernel
theorem dL_law_1417 : decode cL_law 1417 = .ok (.iload 6, 2) := by decide +kernel
theorem dL_law_1419 : decode cL_law 1419 = .ok (.i2l, 1) := by decide +kernel
theorem dL_law_1420 : decode cL_law 1420 = .ok (.lcmp, 1) := by decide +kernel
theorem dL_law_1421 : decode cL_law 1421 = .ok (.ifCond .eq 5, 3) := by decide +kernel
theorem dL_law_1424 : decode cL_law 1424 = .ok (.iconst 0, 1) := by decide +kernel
theorem dL_law_1425 : decode cL_law 1425 = .ok (.ireturn, 1) := by decide +kernel
theorem dL_law_1426 : decode cL_law 1426 = .ok (.goto 251, 3) := by decide +kernel
theorem dL_law_1429 : decode cL_law 1429 = .ok (.aload_n 1, 1) := by decide +kernel
theorem dL_law_1430 : decode cL_law 1430 = .ok (.aload_n 0, 1) := by decide +kernel
theorem dL_law_1431 : decode cL_law 1431 = .ok (.iload 4, 2) := by decide +kernel
theorem dL_law_1433 : decode cL_law 1433 = .ok (.iconst 1, 1) := by decide +kernel
theorem dL_law_1434 : decode cL_law 1434 = .ok (.iadd, 1) := by decide +kernel
theorem dL_law_1435 : decode cL_law 1435 = .ok (.iaload, 1) := by decide +kernel
theorem dL_law_1436 : decode cL_law 1436 = .ok (.aload_n 0, 1) := by decide +kernel
theorem dL_law_1437 : decode cL_law 1437 = .ok (.iload 4, 2) := by decide +kernel
theorem dL_law_1439 : decode cL_law 1439 = .ok (.iconst 2, 1) := by decide +kernel
theorem dL_law_1440 : decode cL_law 1440 = .ok (.iadd, 1) := by decide +kernel
theorem dL_law_1441 : decode cL_law 1441 = .ok (.iaload, 1) := by decide +kernel
theorem dL_law_1442 : decode cL_law 1442 = .ok (.aload_n 0, 1) := by decide +kernel
theorem dL_law_1443 : decode cL_law 1443 = .ok (.iload 4, 2) := by decide +kernel
theorem dL_law_1445 : decode cL_law 1445 = .ok (.iconst 3, 1) := by decide +kernel
theorem dL_law_1446 : decode cL_law 1446 = .ok (.iadd, 1) := by decide +kernel
theorem dL_law_1447 : decode cL_law 1447 = .ok (.iaload, 1) := by decide +kernel
theorem dL_law_1448 : decode cL_law 1448 = .ok (.aload_n 3, 1) := by decide +kernel
theorem dL_law_1449 : decode cL_law 1449 = .ok (.invokestatic 161, 3) := by decide +kernel
theorem dL_law_1452 : decode cL_law 1452 = .ok (.istore 5, 2) := by decide +kernel
theorem dL_law_1454 : decode cL_law 1454 = .ok (.aload_n 2, 1) := by decide +kernel
theorem dL_law_1455 : decode cL_law 1455 = .ok (.aload_n 0, 1) := by decide +kernel
theorem dL_law_1456 : decode cL_law 1456 = .ok (.iload 4, 2) := by decide +kernel
theorem dL_law_1458 : decode cL_law 1458 = .ok (.iconst 1, 1) := by decide +kernel
theorem dL_law_1459 : decode cL_law 1459 = .ok (.iadd, 1) := by decide +kernel
theorem dL_law_1460 : decode cL_law 1460 = .ok (.iaload, 1) := by decide +kernel
theorem dL_law_1461 : decode cL_law 1461 = .ok (.aload_n 0, 1) := by decide +kernel
theorem dL_law_1462 : decode cL_law 1462 = .ok (.iload 4, 2) := by decide +kernel
theorem dL_law_1464 : decode cL_law 1464 = .ok (.iconst 2, 1) := by decide +kernel
theorem dL_law_1465 : decode cL_law 1465 = .ok (.iadd, 1) := by decide +kernel
theorem dL_law_1466 : decode cL_law 1466 = .ok (.iaload, 1) := by decide +kernel
theorem dL_law_1467 : decode cL_law 1467 = .ok (.aload_n 0, 1) := by decide +kernel
theorem dL_law_1468 : decode cL_law 1468 = .ok (.iload 4, 2) := by decide +kernel
theorem dL_law_1470 : decode cL_law 1470 = .ok (.iconst 3, 1) := by decide +kernel
theorem dL_law_1471 : decode cL_law 1471 = .ok (.iadd, 1) := by decide +kernel
theorem dL_law_1472 : decode cL_law 1472 = .ok (.iaload, 1) := by decide +kernel
theorem dL_law_1473 : decode cL_law 1473 = .ok (.invokevirtual 163, 3) := by decide +kernel
theorem dL_law_1476 : decode cL_law 1476 = .ok (.istore 6, 2) := by decide +kernel
theorem dL_law_1478 : decode cL_law 1478 = .ok (.aload_n 2, 1) := by decide +kernel
theorem dL_law_1479 : decode cL_law 1479 = .ok (.invokevirtual 95, 3) := by decide +kernel
theorem dL_law_1482 : decode cL_law 1482 = .ok (.iload 5, 2) := by decide +kernel
theorem dL_law_1484 : decode cL_law 1484 = .ok (.if_icmp .eq 5, 3) := by decide +kernel
theorem dL_law_1487 : decode cL_law 1487 = .ok (.iconst 0, 1) := by decide +kernel
theorem dL_law_1488 : decode cL_law 1488 = .ok (.ireturn, 1) := by decide +kernel
theorem dL_law_1489 : decode cL_law 1489 = .ok (.iload 5, 2) := by decide +kernel
theorem dL_law_1491 : decode cL_law 1491 = .ok (.ifCond .ne 15, 3) := by decide +kernel
theorem dL_law_1494 : decode cL_law 1494 = .ok (.aload_n 3, 1) := by decide +kernel
theorem dL_law_1495 : decode cL_law 1495 = .ok (.iconst 0, 1) := by decide +kernel
theorem dL_law_1496 : decode cL_law 1496 = .ok (.laload, 1) := by decide +kernel
theorem dL_law_1497 : decode cL_law 1497 = .ok (.iload 6, 2) := by decide +kernel
theorem dL_law_1499 : decode cL_law 1499 = .ok (.i2l, 1) := by decide +kernel
theorem dL_law_1500 : decode cL_law 1500 = .ok (.lcmp, 1) := by decide +kernel
theorem dL_law_1501 : decode cL_law 1501 = .ok (.ifCond .eq 5, 3) := by decide +kernel
theorem dL_law_1504 : decode cL_law 1504 = .ok (.iconst 0, 1) := by decide +kernel
theorem dL_law_1505 : decode cL_law 1505 = .ok (.ireturn, 1) := by decide +kernel
theorem dL_law_1506 : decode cL_law 1506 = .ok (.goto 171, 3) := by decide +kernel
theorem dL_law_1509 : decode cL_law 1509 = .ok (.aload_n 1, 1) := by decide +kernel
theorem dL_law_1510 : decode cL_law 1510 = .ok (.aload_n 0, 1) := by decide +kernel
theorem dL_law_1511 : decode cL_law 1511 = .ok (.iload 4, 2) := by decide +kernel
theorem dL_law_1513 : decode cL_law 1513 = .ok (.iconst 1, 1) := by decide +kernel
theorem dL_law_1514 : decode cL_law 1514 = .ok (.iadd, 1) := by decide +kernel
theorem dL_law_1515 : decode cL_law 1515 = .ok (.iaload, 1) := by decide +kernel
theorem dL_law_1516 : decode cL_law 1516 = .ok (.aload_n 0, 1) := by decide +kernel
theorem dL_law_1517 : decode cL_law 1517 = .ok (.iload 4, 2) := by decide +kernel
theorem dL_law_1519 : decode cL_law 1519 = .ok (.iconst 2, 1) := by decide +kernel
theorem dL_law_1520 : decode cL_law 1520 = .ok (.iadd, 1) := by decide +kernel
theorem dL_law_1521 : decode cL_law 1521 = .ok (.iaload, 1) := by decide +kernel
theorem dL_law_1522 : decode cL_law 1522 = .ok (.aload_n 0, 1) := by decide +kernel
theorem dL_law_1523 : decode cL_law 1523 = .ok (.iload 4, 2) := by decide +kernel
theorem dL_law_1525 : decode cL_law 1525 = .ok (.iconst 3, 1) := by decide +kernel
theorem dL_law_1526 : decode cL_law 1526 = .ok (.iadd, 1) := by decide +kernel
theorem dL_law_1527 : decode cL_law 1527 = .ok (.iaload, 1) := by decide +kernel
theorem dL_law_1528 : decode cL_law 1528 = .ok (.aload_n 0, 1) := by decide +kernel
theorem dL_law_1529 : decode cL_law 1529 = .ok (.iload 4, 2) := by decide +kernel
theorem dL_law_1531 : decode cL_law 1531 = .ok (.iconst 4, 1) := by decide +kernel
theorem dL_law_1532 : decode cL_law 1532 = .ok (.iadd, 1) := by decide +kernel
theorem dL_law_1533 : decode cL_law 1533 = .ok (.iaload, 1) := by decide +kernel
theorem dL_law_1534 : decode cL_law 1534 = .ok (.aload_n 3, 1) := by decide +kernel
theorem dL_law_1535 : decode cL_law 1535 = .ok (.invokestatic 164, 3) := by decide +kernel
theorem dL_law_1538 : decode cL_law 1538 = .ok (.istore 5, 2) := by decide +kernel
theorem dL_law_1540 : decode cL_law 1540 = .ok (.aload_n 2, 1) := by decide +kernel
theorem dL_law_1541 : decode cL_law 1541 = .ok (.aload_n 0, 1) := by decide +kernel
theorem dL_law_1542 : decode cL_law 1542 = .ok (.iload 4, 2) := by decide +kernel
theorem dL_law_1544 : decode cL_law 1544 = .ok (.iconst 1, 1) := by decide +kernel
theorem dL_law_1545 : decode cL_law 1545 = .ok (.iadd, 1) := by decide +kernel
theorem dL_law_1546 : decode cL_law 1546 = .ok (.iaload, 1) := by decide +kernel
theorem dL_law_1547 : decode cL_law 1547 = .ok (.aload_n 0, 1) := by decide +kernel
theorem dL_law_1548 : decode cL_law 1548 = .ok (.iload 4, 2) := by decide +kernel
theorem dL_law_1550 : decode cL_law 1550 = .ok (.iconst 2, 1) := by decide +kernel
theorem dL_law_1551 : decode cL_law 1551 = .ok (.iadd, 1) := by decide +kernel
theorem dL_law_1552 : decode cL_law 1552 = .ok (.iaload, 1) := by decide +kernel
theorem dL_law_1553 : decode cL_law 1553 = .ok (.aload_n 0, 1) := by decide +kernel
theorem dL_law_1554 : decode cL_law 1554 = .ok (.iload 4, 2) := by decide +kernel
theorem dL_law_1556 : decode cL_law 1556 = .ok (.iconst 3, 1) := by decide +kernel
theorem dL_law_1557 : decode cL_law 1557 = .ok (.iadd, 1) := by decide +kernel
theorem dL_law_1558 : decode cL_law 1558 = .ok (.iaload, 1) := by decide +kernel
theorem dL_law_1559 : decode cL_law 1559 = .ok (.aload_n 0, 1) := by decide +kernel
theorem dL_law_1560 : decode cL_law 1560 = .ok (.iload 4, 2) := by decide +kernel
theorem dL_law_1562 : decode cL_law 1562 = .ok (.iconst 4, 1) := by decide +kernel
theorem dL_law_1563 : decode cL_law 1563 = .ok (.iadd, 1) := by decide +kernel
theorem dL_law_1564 : decode cL_law 1564 = .ok (.iaload, 1) := by decide +kernel
theorem dL_law_1565 : decode cL_law 1565 = .ok (.invokevirtual 166, 3) := by decide +kernel
theorem dL_law_1568 : decode cL_law 1568 = .ok (.istore 6, 2) := by decide +kernel
theorem dL_law_1570 : decode cL_law 1570 = .ok (.aload_n 2, 1) := by decide +kernel
theorem dL_law_1571 : decode cL_law 1571 = .ok (.invokevirtual 95, 3) := by decide +kernel
theorem dL_law_1574 : decode cL_law 1574 = .ok (.iload 5, 2) := by decide +kernel
theorem dL_law_1576 : decode cL_law 1576 = .ok (.if_icmp .eq 5, 3) := by decide +kernel
theorem dL_law_1579 : decode cL_law 1579 = .ok (.iconst 0, 1) := by decide +kernel
theorem dL_law_1580 : decode cL_law 1580 = .ok (.ireturn, 1) := by decide +kernel
theorem dL_law_1581 : decode cL_law 1581 = .ok (.iload 5, 2) := by decide +kernel
theorem dL_law_1583 : decode cL_law 1583 = .ok (.ifCond .ne 15, 3) := by decide +kernel
theorem dL_law_1586 : decode cL_law 1586 = .ok (.aload_n 3, 1) := by decide +kernel
theorem dL_law_1587 : decode cL_law 1587 = .ok (.iconst 0, 1) := by decide +kernel
theorem dL_law_1588 : decode cL_law 1588 = .ok (.laload, 1) := by decide +kernel
theorem dL_law_1589 : decode cL_law 1589 = .ok (.iload 6, 2) := by decide +kernel
theorem dL_law_1591 : decode cL_law 1591 = .ok (.i2l, 1) := by decide +kernel
theorem dL_law_1592 : decode cL_law 1592 = .ok (.lcmp, 1) := by decide +kernel
theorem dL_law_1593 : decode cL_law 1593 = .ok (.ifCond .eq 5, 3) := by decide +kernel
theorem dL_law_1596 : decode cL_law 1596 = .ok (.iconst 0, 1) := by decide +kernel
theorem dL_law_1597 : decode cL_law 1597 = .ok (.ireturn, 1) := by decide +kernel
theorem dL_law_1598 : decode cL_law 1598 = .ok (.goto 79, 3) := by decide +kernel
theorem dL_law_1601 : decode cL_law 1601 = .ok (.aload_n 1, 1) := by decide +kernel
theorem dL_law_1602 : decode cL_law 1602 = .ok (.aload_n 0, 1) := by decide +kernel
theorem dL_law_1603 : decode cL_law 1603 = .ok (.iload 4, 2) := by decide +kernel
theorem dL_law_1605 : decode cL_law 1605 = .ok (.iconst 1, 1) := by decide +kernel
theorem dL_law_1606 : decode cL_law 1606 = .ok (.iadd, 1) := by decide +kernel
theorem dL_law_1607 : decode cL_law 1607 = .ok (.iaload, 1) := by decide +kernel
theorem dL_law_1608 : decode cL_law 1608 = .ok (.aload_n 3, 1) := by decide +kernel
theorem dL_law_1609 : decode cL_law 1609 = .ok (.invokestatic 167, 3) := by decide +kernel
theorem dL_law_1612 : decode cL_law 1612 = .ok (.istore 5, 2) := by decide +kernel
theorem dL_law_1614 : decode cL_law 1614 = .ok (.aload_n 2, 1) := by decide +kernel
theorem dL_law_1615 : decode cL_law 1615 = .ok (.aload_n 0, 1) := by decide +kernel
theorem dL_law_1616 : decode cL_law 1616 = .ok (.iload 4, 2) := by decide +kernel
theorem dL_law_1618 : decode cL_law 1618 = .ok (.iconst 1, 1) := by decide +kernel
theorem dL_law_1619 : decode cL_law 1619 = .ok (.iadd, 1) := by decide +kernel
theorem dL_law_1620 : decode cL_law 1620 = .ok (.iaload, 1) := by decide +kernel
theorem dL_law_1621 : decode cL_law 1621 = .ok (.invokevirtual 169, 3) := by decide +kernel
theorem dL_law_1624 : decode cL_law 1624 = .ok (.istore 6, 2) := by decide +kernel
theorem dL_law_1626 : decode cL_law 1626 = .ok (.aload_n 2, 1) := by decide +kernel
theorem dL_law_1627 : decode cL_law 1627 = .ok (.invokevirtual 95, 3) := by decide +kernel
theorem dL_law_1630 : decode cL_law 1630 = .ok (.iload 5, 2) := by decide +kernel
theorem dL_law_1632 : decode cL_law 1632 = .ok (.if_icmp .eq 5, 3) := by decide +kernel
theorem dL_law_1635 : decode cL_law 1635 = .ok (.iconst 0, 1) := by decide +kernel
theorem dL_law_1636 : decode cL_law 1636 = .ok (.ireturn, 1) := by decide +kernel
theorem dL_law_1637 : decode cL_law 1637 = .ok (.iload 5, 2) := by decide +kernel
theorem dL_law_1639 : decode cL_law 1639 = .ok (.ifCond .ne 22, 3) := by decide +kernel
theorem dL_law_1642 : decode cL_law 1642 = .ok (.aload_n 3, 1) := by decide +kernel
theorem dL_law_1643 : decode cL_law 1643 = .ok (.iconst 0, 1) := by decide +kernel
theorem dL_law_1644 : decode cL_law 1644 = .ok (.laload, 1) := by decide +kernel
theorem dL_law_1645 : decode cL_law 1645 = .ok (.iload 6, 2) := by decide +kernel
theorem dL_law_1647 : decode cL_law 1647 = .ok (.ifCond .eq 7, 3) := by decide +kernel
theorem dL_law_1650 : decode cL_law 1650 = .ok (.lconst 1, 1) := by decide +kernel
theorem dL_law_1651 : decode cL_law 1651 = .ok (.goto 4, 3) := by decide +kernel
theorem dL_law_1654 : decode cL_law 1654 = .ok (.lconst 0, 1) := by decide +kernel
theorem dL_law_1655 : decode cL_law 1655 = .ok (.lcmp, 1) := by decide +kernel
theorem dL_law_1656 : decode cL_law 1656 = .ok (.ifCond .eq 5, 3) := by decide +kernel
theorem dL_law_1659 : decode cL_law 1659 = .ok (.iconst 0, 1) := by decide +kernel
theorem dL_law_1660 : decode cL_law 1660 = .ok (.ireturn, 1) := by decide +kernel
theorem dL_law_1661 : decode cL_law 1661 = .ok (.goto 16, 3) := by decide +kernel
theorem dL_law_1664 : decode cL_law 1664 = .ok (.aload_n 1, 1) := by decide +kernel
theorem dL_law_1665 : decode cL_law 1665 = .ok (.invokevirtual 170, 3) := by decide +kernel
theorem dL_law_1668 : decode cL_law 1668 = .ok (.aload_n 2, 1) := by decide +kernel
theorem dL_law_1669 : decode cL_law 1669 = .ok (.invokevirtual 173, 3) := by decide +kernel
theorem dL_law_1672 : decode cL_law 1672 = .ok (.if_icmp .eq 5, 3) := by decide +kernel
theorem dL_law_1675 : decode cL_law 1675 = .ok (.iconst 0, 1) := by decide +kernel
theorem dL_law_1676 : decode cL_law 1676 = .ok (.ireturn, 1) := by decide +kernel
theorem dL_law_1677 : decode cL_law 1677 = .ok (.iinc 4 5, 3) := by decide +kernel
theorem dL_law_1680 : decode cL_law 1680 = .ok (.goto (-1657), 3) := by decide +kernel
theorem dL_law_1683 : decode cL_law 1683 = .ok (.iconst 1, 1) := by decide +kernel
theorem dL_law_1684 : decode cL_law 1684 = .ok (.ireturn, 1) := by decide +kernel
end
section
/-! ===== whole numbers: an int as the Int that it is ===== -/
def iI (z : Int) : Int32 := Int32.ofInt z
def rg (z : Int) : Prop := -2147483648 ≤ z ∧ z < 2147483648
theorem rg_iff {z : Int} : rg z ↔ -2147483648 ≤ z ∧ z < 2147483648 := Iff.rfl
theorem iI_t {z : Int} (h : rg z) : (iI z).toInt = z := Int32.toInt_ofInt_of_le (by have := h.1; omega) (by have := h.2; omega)
theorem iI_of (x : Int32) : iI x.toInt = x := Int32.ofInt_toInt x
theorem rg_t (x : Int32) : rg x.toInt := ⟨by have := x.le_toInt; omega, by have := x.toInt_lt; omega⟩
theorem iI_add (a b : Int) : iI a + iI b = iI (a + b) := (Int32.ofInt_add a b).symm
theorem iI_sub (a b : Int) : iI a - iI b = iI (a - b) := (Int32.ofInt_sub a b).symm
theorem iI_mul (a b : Int) : iI a * iI b = iI (a * b) := (Int32.ofInt_mul a b).symm
theorem iI_neg (a : Int) : -(iI a) = iI (-a) := (Int32.ofInt_neg a).symm
theorem iI_0 : (0 : Int32) = iI 0 := by decide
theorem iI_lt {a b : Int} (ha : rg a) (hb : rg b) : iI a < iI b ↔ a < b := by rw [Int32.lt_iff_toInt_lt, iI_t ha, iI_t hb]
theorem iI_le {a b : Int} (ha : rg a) (hb : rg b) : iI a ≤ iI b ↔ a ≤ b := by rw [Int32.le_iff_toInt_le, iI_t ha, iI_t hb]
theorem iI_eq {a b : Int} (ha : rg a) (hb : rg b) : iI a = iI b ↔ a = b := by rw [← Int32.toInt_inj, iI_t ha, iI_t hb]
theorem rg0 : rg 0 := ⟨by decide, by decide⟩
theorem iI_in {z : Int} {n : Nat} (h0 : 0 ≤ z) (h1 : z < n) (hn : n ≤ 100000) : vp_in (iI z) n := vp_in_iff.mpr (by rw [iI_t ⟨by omega, by omega⟩]; exact ⟨h0, h1⟩)
theorem iI_cl {z : Int} (h0 : 0 ≤ z) (h1 : z < 2147483648) : (((iI z).toNatClampNeg : Nat) : Int) = z := by
  show (((iI z).toInt.toNat : Nat) : Int) = z
  rw [iI_t ⟨by omega, h1⟩]
  exact Int.toNat_of_nonneg h0
theorem iI_nat (n : Nat) : Int32.ofNat n = iI (n : Int) := (Int32.ofInt_eq_ofNat).symm
theorem rg_min {z : Int} (h : rg z) : Int32.minValue.toInt ≤ z := by
  have e : Int32.minValue.toInt = -2147483648 := by decide
  have := h.1
  omega
theorem rg_max {z : Int} (h : rg z) : z ≤ Int32.maxValue.toInt := by
  have e : Int32.maxValue.toInt = 2147483647 := by decide
  have := h.2
  omega
theorem iI_div {a b : Int} (ha : rg a) (hb : rg b) : iI a / iI b = iI (a.tdiv b) := (Int32.ofInt_tdiv (rg_min ha) (rg_max ha) (rg_min hb) (rg_max hb)).symm
theorem iI_rem {a b : Int} (ha : rg a) (hb : rg b) : iI a - iI a / iI b * iI b = iI (a.tmod b) := by
  rw [iI_div ha hb, iI_mul, iI_sub, Int.tmod_def, Int.mul_comm]
theorem iI_nn {a : Int} (h : rg a) (h0 : a ≠ 0) : ¬ iI a = 0 := by rw [iI_0, iI_eq h rg0]; exact h0
/-! ===== the store: cell and place to number ===== -/
abbrev gSt : Type := Nat → Int → Int
def ud (f : Int → Int) (j v : Int) : Int → Int := fun b => if b = j then v else f b
def st (S : gSt) (k : Nat) (j v : Int) : gSt := fun a => if a = k then ud (S a) j v else S a
theorem ud_s (f : Int → Int) (j v : Int) : ud f j v j = v := if_pos rfl
theorem ud_n {f : Int → Int} {j v b : Int} (h : b ≠ j) : ud f j v b = f b := if_neg h
theorem upd_ud (f : Int → Int) {z x : Int} (h0 : 0 ≤ z) (h1 : z < 2147483648) : upd (fun j : Nat => iI (f j)) (iI z).toNatClampNeg (iI x) = fun j : Nat => iI (ud f z x j) := by
  funext j
  have hc := iI_cl h0 h1
  by_cases h : j = (iI z).toNatClampNeg
  · subst h
    show (if _ then _ else _) = _
    rw [if_pos rfl, hc, ud_s]
  · have h2 : (j : Int) ≠ z := by omega
    show (if _ then _ else _) = _
    rw [if_neg h, ud_n h2]
/-! ===== the good words, the words of the nest ===== -/
def GL : List Cond := lw_tbl.filter goodWord
theorem gm (i : Nat) {w : Cond} (h : lw_tbl[i]? = some w) (hg : goodWord w = true) : w ∈ GL := List.mem_filter.mpr ⟨List.mem_of_getElem? h, hg⟩
def isNest : Cond → Bool
  | .fieldLinkNest _ _ _ _ _ _ => true
  | .methodLinkNest _ _ _ _ => true
  | .castable _ _ => true
  | .declares _ => true
  | _ => false
def NL : List Cond := lw_tbl.filter isNest
theorem nmm (i : Nat) {w : Cond} (h : lw_tbl[i]? = some w) (hg : isNest w = true) : w ∈ NL := List.mem_filter.mpr ⟨List.mem_of_getElem? h, hg⟩
theorem nest_warm {w : Cond} (hg : isNest w = true) {s U : State} (hW : s.WarmedH U.vm) (h : va_Nw w s) : va_Nw w U := by
  cases w <;> first | exact va_Nw.warmF hW h | exact va_Nw.warmM hW h | exact va_Nw.warmC hW h | exact va_Nw.warmD hW h | cases hg
theorem nest_on {w : Cond} (hg : isNest w = true) : w.onTables = true := by
  cases w <;> first | rfl | cases hg
/-! ===== the world: thirty-four cells at fixed addresses ===== -/
/-- addresses of the cells, class numbers and slots, classes of int[] and long[], addresses of the texts -/
abbrev gT : Type := (Nat → Nat) × va_G × ClassId × ClassId × (Nat → Nat)
abbrev kA (g : gT) (S : gSt) (k n : Nat) : Nat × va_E := (g.1 k, .inl (g.2.2.1, n, .inl (fun j : Nat => iI (S k j))))
def Wl (g : gT) (S : gSt) : va_W := [
  (g.1 0, .inr (5, [.ref (g.1 1), .ref (g.1 4), .ref (g.1 8), .ref (g.1 12), .ref (g.1 17)])),
  (g.1 1, .inr (1, [.int (iI (S 1 0)), .ref (g.1 2), .ref (g.1 3)])), kA g S 2 24, kA g S 3 24,
  (g.1 4, .inr (4, [.int (iI (S 4 0)), .ref (g.1 5), .ref (g.1 6), .ref (g.1 7)])), kA g S 5 8, kA g S 6 80, kA g S 7 80,
  (g.1 8, .inr (0, [.ref (g.1 9), .ref (g.1 10), .ref (g.1 11)])), kA g S 9 48, kA g S 10 80, kA g S 11 8,
  (g.1 12, .inr (3, [.int (iI (S 12 0)), .ref (g.1 13), .ref (g.1 14), .ref (g.1 15), .ref (g.1 16)])), kA g S 13 12, kA g S 14 12, kA g S 15 12, kA g S 16 12,
  (g.1 17, .inr (2, [.int (iI (S 17 0)), .int (iI (S 17 1)), .ref (g.1 18), .ref (g.1 19), .ref (g.1 20), .ref (g.1 21), .ref (g.1 22)])), kA g S 18 30, kA g S 19 30, kA g S 20 30, kA g S 21 30, kA g S 22 30,
  (g.1 23, .inr (6, [.int (iI (S 23 0)), .ref (g.1 24), .ref (g.1 25), .int (iI (S 23 3)), .ref (g.1 26), .ref (g.1 27), .ref (g.1 28), .int (iI (S 23 7)), .ref (g.1 29), .ref (g.1 30), .ref (g.1 31), .int (iI (S 23 11)), .ref (g.1 32), .int (iI (S 23 13))])),
  kA g S 24 24, kA g S 25 24, kA g S 26 80, kA g S 27 80, kA g S 28 8, kA g S 29 48, kA g S 30 8, kA g S 31 60, kA g S 32 150,
  (g.1 33, .inl (g.2.2.2.1, 1, .inr (.inl (fun j : Nat => (iI (S 33 j)).toInt64))))]
theorem Wl_ad (g : gT) (S : gSt) : (Wl g S).map (fun q => q.1) = (List.range 34).map g.1 := rfl
theorem Wl_at {g : gT} {S : gSt} {i : Nat} {q : Nat × va_E} (h : (Wl g S)[i]? = some q) : i < 34 ∧ q.1 = g.1 i := by
  have h1 : ((Wl g S).map (fun q => q.1))[i]? = some q.1 := by rw [List.getElem?_map, h]; rfl
  rw [Wl_ad, List.getElem?_map] at h1
  have hi : i < 34 := by
    by_cases hi : i < 34
    · exact hi
    · rw [List.getElem?_eq_none (by simp; omega)] at h1; cases h1
  refine ⟨hi, ?_⟩
  rw [List.getElem?_range hi] at h1
  exact (Option.some.inj h1).symm
def oA (g : gT) : Nat → Prop := fun q => ∃ k : Nat, k < 34 ∧ q = g.1 k
/-- which exception isn't another one -/
def NCL : List (String × String) := [("java/lang/IllegalStateException", "java/lang/IllegalArgumentException"), ("java/lang/IllegalArgumentException", "java/lang/IndexOutOfBoundsException"), ("java/lang/IllegalStateException", "java/lang/IndexOutOfBoundsException")]
/-- the texts of the class, warm -/
def SW (g : gT) (U : State) : Prop := ∀ (k : Nat) (tx : String), Cond.stringRef "SkyLoom" k tx ∈ lw_tbl → vk_R "SkyLoom" k tx (g.2.2.2.2 k) U
def GG (g : gT) (U : State) : Prop :=
  (∀ w ∈ GL, w.before #[] U = true) ∧ (∀ w ∈ NL, va_Nw w U) ∧ va_K g.2.1 vwCl [(g.2.2.1, .int), (g.2.2.2.1, .long)] U ∧ (∀ i j : Nat, i < 34 → j < 34 → g.1 i = g.1 j → i = j) ∧ SW g U ∧ ∀ q ∈ NCL, va_Nc q.1 q.2 U
theorem GG.w {g : gT} {s : State} {args : Array Value} {w : Cond} (h : GG g s) (hw : w ∈ GL) : w.before args s = true :=
  word_at (State.WarmedH.refl s) (good_of_word (List.mem_filter.mp hw).2) (h.1 w hw)
theorem GG.n {g : gT} {s : State} {args : Array Value} {w : Cond} (h : GG g s) (hw : w ∈ NL) : w.before args s = true :=
  va_Nw.use (nest_on (List.mem_filter.mp hw).2) (h.2.1 w hw)
theorem GG.k {g : gT} {s : State} (h : GG g s) : va_K g.2.1 vwCl [(g.2.2.1, .int), (g.2.2.2.1, .long)] s := h.2.2.1
theorem GG.moved {g : gT} {s U : State} (hW : s.WarmedH U.vm) (h : GG g s) : GG g U :=
  ⟨fun w hw => word_at hW (good_of_word (List.mem_filter.mp hw).2) (h.1 w hw), fun w hw => nest_warm (List.mem_filter.mp hw).2 hW (h.2.1 w hw), va_K.moved hW.alike h.k, h.2.2.2.1, fun k tx hk => vk_R.warm hW (h.2.2.2.2.1 k tx hk), fun q hq => va_Nc.moved hW.alike (h.2.2.2.2.2 q hq)⟩
theorem GG.dd {g : gT} {s : State} (h : GG g s) (S : gSt) : va_D (oA g) (Wl g S) :=
  ⟨fun i j p q hi hj e => h.2.2.2.1 i j (Wl_at hi).1 (Wl_at hj).1 ((Wl_at hi).2.symm.trans (e.trans (Wl_at hj).2)), fun k q hk => ⟨k, (Wl_at hk).1, (Wl_at hk).2⟩⟩
/-- the two statics of Throwable that a throw looks at -/
def ZZ (A : Nat → Prop) (U : State) (H : Heap) : Prop := vx_Zq Bundle.tN "UNASSIGNED_STACK" Bundle.steD A U H ∧ vx_Zq Bundle.tN "SUPPRESSED_SENTINEL" Bundle.listD A U H
theorem ZZ.moved {A : Nat → Prop} {u U : State} {H : Heap} (hvm : u.vm.Alike U.vm) (h : ZZ A u H) : ZZ A U H := ⟨vx_Zq.moved hvm h.1, vx_Zq.moved hvm h.2⟩
theorem ZZ.kept {A : Nat → Prop} {U : State} {H H1 : Heap} (h : ZZ A U H) (hq : ∀ a : Nat, a < H.size → ¬ A a → H1[a]? = H[a]?) : ZZ A U H1 := ⟨vx_Zq.kept h.1 hq, vx_Zq.kept h.2 hq⟩
/-! ===== contracts ===== -/
def PreG (g : gT) (av : List Value) (S : gSt) : Array Value → State → Prop := va_Pc av (fun U => GG g U ∧ ZZ (oA g) U U.heap ∧ va_P g.2.1 vwCl (Wl g S) U.heap)
def RetG (g : gT) (v : Option Value) (S' : gSt) : Array Value → State → Outcome → State → Prop := fun _ st o t => o = .returned v ∧ va_P g.2.1 vwCl (Wl g S') t.heap ∧ va_F (oA g) st t
def XG (g : gT) (S' : gSt) (E : String) : String → State → State → Prop := fun E' st t => E' = E ∧ va_P g.2.1 vwCl (Wl g S') t.heap ∧ va_F (oA g) st t
def MetG (l : Launch) (g : gT) (y : MethodName) (cc : ByteArray) (nL : Nat) (ret : Option FieldType) (fr lo : Nat) (av : List Value) (S : gSt) (v : Option Value) (S' : gSt) : Prop :=
  Met l y [.code y cc nL ret] { frames := fr, cells := 0, slots := 0, locals := lo } (PreG g av S) (RetG g v S') 0 0 (oA g)
def ThrG (l : Launch) (g : gT) (y : MethodName) (cc : ByteArray) (nL : Nat) (ret : Option FieldType) (fr lo : Nat) (av : List Value) (S : gSt) (E : String) (S' : gSt) : Prop :=
  vx_Met l y [.code y cc nL ret] { frames := fr, cells := 1, slots := 6, locals := lo } (PreG g av S) (fun _ _ _ _ => False) (XG g S' E) 1 6 (oA g)
theorem PreG.blind (g : gT) (av : List Value) (S : gSt) : FrameBlind (PreG g av S) := by
  intro a U gf mk q
  obtain ⟨q0, q1, q2, q3⟩ := q
  refine ⟨q0, GG.moved (s := U) (U := U.calling gf mk a) (State.WarmedH.refl U) q1, ZZ.moved (u := U) (U := U.calling gf mk a) (Vm.Alike.refl U.vm) q2, q3⟩
/-- what a body stands on -/
def Ct (p : Program) (s : State) (m : MethodId) (args : Array Value) (c : Code) (g : gT) (own : String) (cc : ByteArray) (nL : Nat) : Prop :=
  p.tables.exec = Jvm.exec ∧ c.code = cc ∧ c.maxLocals = nL ∧ s.vm.findClass own = some m.cls ∧ GG g s ∧ ZZ (oA g) s s.heap
/-- the heap: the world with the numbers S, nothing else changed -/
def Hp (g : gT) (S : gSt) (s : State) (H : Heap) (locs : List Loc) : Prop := va_P g.2.1 vwCl (Wl g S) H ∧ va_S (oA g) s.heap H locs
section BG
variable {l : Launch} {g : gT} {y : MethodName} {cc : ByteArray} {nL fr lo : Nat} {ret : Option FieldType} {av : List Value} {S S' : gSt} {v : Option Value} {E : String}
/-- a body opened, whatever its class's name, where no native stands in its place -/
theorem ofWF {ws ws' : List Cond} {rm : Room} {Pc : Array Value → State → Prop} {Qc : Array Value → State → Outcome → State → Prop} {mc ms : Nat} {free : Addr → Prop}
    (hy : plainFor y = true) (hw : ws = Cond.code y cc nL ret :: ws')
    (body : ∀ p e s m args below meth c s₁, BodyLoose p l y (headSpec ws rm) cc nL ret e s m args below meth c s₁ → c.maxLocals = nL → Pc args s →
      W p l e (headSpec ws rm).room s m args below meth c s.heap [] 0 0 (MQ below Qc args s mc ms free) (entryFrame m args nL)) : Met l y ws rm Pc Qc mc ms free := by
  refine MetFree.of_bodySF (code := cc) (maxLocals := nL) (ret := ret) hy ?_ ?_
  · intro args s m h hn
    obtain ⟨meth, c, h1, h2, h3, h4, h5, h6, -, -⟩ := Cond.code_spec hn (atoms_spec (ws := ws) h _ (by rw [hw]; exact List.mem_cons_self))
    exact ⟨meth, c, h1, h2, h3, h4, h5, h6⟩
  · intro p e s m args below meth c s₁ B hml hP _
    have hh0 : s₁.heap = s.heap := by rw [B.state]; rfl
    obtain ⟨t, a1, o, b1, b2, b3⟩ := body p e s m args below meth c s₁ B hml hP s₁ hh0 (Stand.of_body B)
    exact ⟨t, o, a1, b1, b2, ⟨b3.1, b3.2⟩⟩
theorem bodyG (hy : plainFor y = true) (hlen : (lg_sl av).length ≤ nL)
    (h : ∀ (p : Program) (e : Env) (s : State) (m : MethodId) (args : Array Value) (below : List Frame) (meth : Method) (c : Code) (ls : Array Slot), Ct p s m args c g y.cls cc nL → meth.sig.returnType = ret → meth.locks = false → lv_has ls nL (lv_args 0 av) → Hp g S s s.heap [] →
      W p l e { frames := fr, cells := 0, slots := 0, locals := lo } s m args below meth c s.heap [] 0 0 (MQ below (RetG g v S') args s 0 0 (oA g)) (F0 m 0 ls [])) : MetG l g y cc nL ret fr lo av S v S' := by
  refine ofWF (cc := cc) (nL := nL) (ret := ret) hy rfl ?_
  intro p e s m args below meth c s₁ B hml hv
  obtain ⟨rfl, hG, hZ, hP⟩ := hv
  have hl := lv_entry av (n := nL) hlen
  rw [lg_entry_eq]
  exact h p e s m _ below meth c _ ⟨B.exec, B.bytes, hml, findClass_of_methodNamed B.named, hG, hZ⟩ B.returns B.notSynchronized hl ⟨hP, va_S.rf⟩
theorem bodyX (hy : plainName y.cls = true) (hlen : (lg_sl av).length ≤ nL)
    (h : ∀ (p : Program) (e : Env) (s : State) (m : MethodId) (args : Array Value) (below : List Frame) (meth : Method) (c : Code) (ls : Array Slot), Ct p s m args c g y.cls cc nL → (∀ x ∈ c.exceptionTable.toList, False) → meth.locks = false → lv_has ls nL (lv_args 0 av) → Hp g S s s.heap [] →
      W p l e { frames := fr, cells := 1, slots := 6, locals := lo } s m args below meth c s.heap [] 0 0 (vx_MQ below (fun _ _ _ _ => False) (XG g S' E) args s 1 6 (oA g)) (F0 m 0 ls [])) : ThrG l g y cc nL ret fr lo av S E S' := by
  refine vx_ofW (cc := cc) (maxL := nL) (ret := ret) hy rfl ?_
  intro p e s m args below meth c s₁ B hml ht hv
  obtain ⟨rfl, hG, hZ, hP⟩ := hv
  have hl := lv_entry av (n := nL) hlen
  rw [lg_entry_eq]
  exact h p e s m _ below meth c _ ⟨B.exec, B.bytes, hml, findClass_of_methodNamed B.named, hG, hZ⟩ ht B.notSynchronized hl ⟨hP, va_S.rf⟩
end BG
section RW
variable {p : Program} {l : Launch} {e : Env} {R : Room} {s : State} {m : MethodId} {args : Array Value} {below : List Frame} {meth : Method} {c : Code} {H : Heap} {locs : List Loc} {cells slots : Nat} {Q : State → Prop}
variable {g : gT} {own : String} {cc : ByteArray} {nL : Nat} {S S' : gSt} {pc : Nat} {ls : Array Slot} {rest : List Value}
/-! returns -/
theorem retI (C : Ct p s m args c g own cc nL) (hr : meth.sig.returnType = some .int) (hk : meth.locks = false) (hH : Hp g S s H locs) {z r : Int} (hz : z = r) (hS : S = S') (hdg : decode cc pc = .ok (.ireturn, 1)) :
    W p l e R s m args below meth c H locs 0 0 (MQ below (RetG g (some (.int (iI r))) S') args s 0 0 (oA g)) (F0 m pc ls [.int (iI z)]) := by
  subst hz; subst hS
  exact W.iret C.1 C.2.1 hr (fun t ht hW => ⟨rfl, by rw [ht]; exact hH.1, hH.2.F ht⟩) hH.2.2.2 hdg hk
theorem retZ (C : Ct p s m args c g own cc nL) (hr : meth.sig.returnType = some .boolean) (hk : meth.locks = false) (hH : Hp g S s H locs) {z r : Int} (hz : z = r) (hb : z = 0 ∨ z = 1) (hS : S = S') (hdg : decode cc pc = .ok (.ireturn, 1)) :
    W p l e R s m args below meth c H locs 0 0 (MQ below (RetG g (some (.int (iI r))) S') args s 0 0 (oA g)) (F0 m pc ls [.int (iI z)]) := by
  subst hz; subst hS
  exact W.zret C.1 C.2.1 hr (by rcases hb with rfl | rfl <;> rfl) (fun t ht hW => ⟨rfl, by rw [ht]; exact hH.1, hH.2.F ht⟩) hH.2.2.2 hdg hk
theorem retV (C : Ct p s m args c g own cc nL) (hr : meth.sig.returnType = none) (hk : meth.locks = false) (hH : Hp g S s H locs) (hS : S = S') (hdg : decode cc pc = .ok (.return_, 1)) :
    W p l e R s m args below meth c H locs 0 0 (MQ below (RetG g none S') args s 0 0 (oA g)) (F0 m pc ls []) := by
  subst hS
  exact W.vret C.1 C.2.1 hr (fun t ht hW => ⟨rfl, by rw [ht]; exact hH.1, hH.2.F ht⟩) hH.2.2.2 hdg hk
/-! numbers -/
theorem bi_const (hx : p.tables.exec = Jvm.exec) (hb : c.code = cc) {n : Int} (hdg : decode cc pc = .ok (.iconst n, 1))
    (k : W p l e R s m args below meth c H locs cells slots Q (F0 m (pc + 1) ls (.int (iI n) :: rest))) : W p l e R s m args below meth c H locs cells slots Q (F0 m pc ls rest) := lv_iconst hx hb hdg rfl k
theorem bi_bip (hx : p.tables.exec = Jvm.exec) (hb : c.code = cc) {n : Int} (hdg : decode cc pc = .ok (.bipush n, 2)) (hv : (Int8.ofInt n).toInt32 = iI n)
    (k : W p l e R s m args below meth c H locs cells slots Q (F0 m (pc + 2) ls (.int (iI n) :: rest))) : W p l e R s m args below meth c H locs cells slots Q (F0 m pc ls rest) := lv_bipush hx hb hdg hv k
theorem bi_sip (hx : p.tables.exec = Jvm.exec) (hb : c.code = cc) {n : Int} (hdg : decode cc pc = .ok (.sipush n, 3)) (hv : (Int16.ofInt n).toInt32 = iI n)
    (k : W p l e R s m args below meth c H locs cells slots Q (F0 m (pc + 3) ls (.int (iI n) :: rest))) : W p l e R s m args below meth c H locs cells slots Q (F0 m pc ls rest) := lv_sipush hx hb hdg hv k
theorem bi_add (hx : p.tables.exec = Jvm.exec) (hb : c.code = cc) {a b : Int} (hdg : decode cc pc = .ok (.iadd, 1))
    (k : W p l e R s m args below meth c H locs cells slots Q (F0 m (pc + 1) ls (.int (iI (a + b)) :: rest))) : W p l e R s m args below meth c H locs cells slots Q (F0 m pc ls (.int (iI b) :: .int (iI a) :: rest)) := lv_iadd hx hb hdg (by rw [iI_add]; exact k)
theorem bi_sub (hx : p.tables.exec = Jvm.exec) (hb : c.code = cc) {a b : Int} (hdg : decode cc pc = .ok (.isub, 1))
    (k : W p l e R s m args below meth c H locs cells slots Q (F0 m (pc + 1) ls (.int (iI (a - b)) :: rest))) : W p l e R s m args below meth c H locs cells slots Q (F0 m pc ls (.int (iI b) :: .int (iI a) :: rest)) := lv_isub hx hb hdg (by rw [iI_sub]; exact k)
theorem bi_mul (hx : p.tables.exec = Jvm.exec) (hb : c.code = cc) {a b : Int} (hdg : decode cc pc = .ok (.imul, 1))
    (k : W p l e R s m args below meth c H locs cells slots Q (F0 m (pc + 1) ls (.int (iI (a * b)) :: rest))) : W p l e R s m args below meth c H locs cells slots Q (F0 m pc ls (.int (iI b) :: .int (iI a) :: rest)) := lv_imul hx hb hdg (by rw [iI_mul]; exact k)
theorem bi_neg (hx : p.tables.exec = Jvm.exec) (hb : c.code = cc) {a : Int} (hdg : decode cc pc = .ok (.ineg, 1))
    (k : W p l e R s m args below meth c H locs cells slots Q (F0 m (pc + 1) ls (.int (iI (-a)) :: rest))) : W p l e R s m args below meth c H locs cells slots Q (F0 m pc ls (.int (iI a) :: rest)) := lv_ineg hx hb hdg (by rw [iI_neg]; exact k)
theorem bi_div (hx : p.tables.exec = Jvm.exec) (hb : c.code = cc) {a b : Int} (hdg : decode cc pc = .ok (.idiv, 1)) (ha : rg a) (hbr : rg b) (h0 : b ≠ 0)
    (k : W p l e R s m args below meth c H locs cells slots Q (F0 m (pc + 1) ls (.int (iI (a.tdiv b)) :: rest))) : W p l e R s m args below meth c H locs cells slots Q (F0 m pc ls (.int (iI b) :: .int (iI a) :: rest)) := lv_idiv hx hb hdg (iI_nn hbr h0) (by rw [iI_div ha hbr]; exact k)
theorem bi_rem (hx : p.tables.exec = Jvm.exec) (hb : c.code = cc) {a b : Int} (hdg : decode cc pc = .ok (.irem, 1)) (ha : rg a) (hbr : rg b) (h0 : b ≠ 0)
    (k : W p l e R s m args below meth c H locs cells slots Q (F0 m (pc + 1) ls (.int (iI (a.tmod b)) :: rest))) : W p l e R s m args below meth c H locs cells slots Q (F0 m pc ls (.int (iI b) :: .int (iI a) :: rest)) := lv_irem hx hb hdg (iI_nn hbr h0) (by rw [iI_rem ha hbr]; exact k)
theorem bi_inc (hx : p.tables.exec = Jvm.exec) (hb : c.code = cc) {i n0 k0 : Nat} {n z : Int} {lv lv' : List (Nat × Value)} (hdg : decode cc pc = .ok (.iinc i n, 3)) (h : lv_has ls n0 lv) (hk : lv[k0]? = some (i, .int (iI z))) (hn : i < n0) (hl : (i, Value.int (iI (z + n))) :: lv.filter (fun q => !(q.1 == i) && !(q.1 + 1 == i && q.2.category == 2)) = lv')
    (kk : ∀ ls' : Array Slot, lv_has ls' n0 lv' → W p l e R s m args below meth c H locs cells slots Q (F0 m (pc + 3) ls' rest)) : W p l e R s m args below meth c H locs cells slots Q (F0 m pc ls rest) := lv_iinc (v := iI (z + n)) hx hb hdg h hk (iI_add z n) hn hl kk
/-! branches -/
theorem bq_eq (hx : p.tables.exec = Jvm.exec) (hb : c.code = cc) {a b off : Int} {tgt : Nat} (hdg : decode cc pc = .ok (.if_icmp .eq off, 3)) (ht : (pc : Int) + off = (tgt : Int)) (ra : rg a) (rb : rg b)
    (kt : a = b → W p l e R s m args below meth c H locs cells slots Q (F0 m tgt ls rest)) (kf : a ≠ b → W p l e R s m args below meth c H locs cells slots Q (F0 m (pc + 3) ls rest)) : W p l e R s m args below meth c H locs cells slots Q (F0 m pc ls (.int (iI b) :: .int (iI a) :: rest)) :=
  lv_icmp_eq hx hb hdg ht (fun h => kt ((iI_eq ra rb).mp h)) (fun h => kf (fun q => h ((iI_eq ra rb).mpr q)))
theorem bq_ne (hx : p.tables.exec = Jvm.exec) (hb : c.code = cc) {a b off : Int} {tgt : Nat} (hdg : decode cc pc = .ok (.if_icmp .ne off, 3)) (ht : (pc : Int) + off = (tgt : Int)) (ra : rg a) (rb : rg b)
    (kt : a ≠ b → W p l e R s m args below meth c H locs cells slots Q (F0 m tgt ls rest)) (kf : a = b → W p l e R s m args below meth c H locs cells slots Q (F0 m (pc + 3) ls rest)) : W p l e R s m args below meth c H locs cells slots Q (F0 m pc ls (.int (iI b) :: .int (iI a) :: rest)) :=
  lv_icmp_ne hx hb hdg ht (fun h => kt (fun q => h ((iI_eq ra rb).mpr q))) (fun h => kf ((iI_eq ra rb).mp h))
theorem bq_lt (hx : p.tables.exec = Jvm.exec) (hb : c.code = cc) {a b off : Int} {tgt : Nat} (hdg : decode cc pc = .ok (.if_icmp .lt off, 3)) (ht : (pc : Int) + off = (tgt : Int)) (ra : rg a) (rb : rg b)
    (kt : a < b → W p l e R s m args below meth c H locs cells slots Q (F0 m tgt ls rest)) (kf : b ≤ a → W p l e R s m args below meth c H locs cells slots Q (F0 m (pc + 3) ls rest)) : W p l e R s m args below meth c H locs cells slots Q (F0 m pc ls (.int (iI b) :: .int (iI a) :: rest)) :=
  lv_icmp_lt hx hb hdg ht (fun h => kt ((iI_lt ra rb).mp h)) (fun h => kf (Int.not_lt.mp (fun q => h ((iI_lt ra rb).mpr q))))
theorem bq_ge (hx : p.tables.exec = Jvm.exec) (hb : c.code = cc) {a b off : Int} {tgt : Nat} (hdg : decode cc pc = .ok (.if_icmp .ge off, 3)) (ht : (pc : Int) + off = (tgt : Int)) (ra : rg a) (rb : rg b)
    (kt : b ≤ a → W p l e R s m args below meth c H locs cells slots Q (F0 m tgt ls rest)) (kf : a < b → W p l e R s m args below meth c H locs cells slots Q (F0 m (pc + 3) ls rest)) : W p l e R s m args below meth c H locs cells slots Q (F0 m pc ls (.int (iI b) :: .int (iI a) :: rest)) :=
  lv_icmp_ge hx hb hdg ht (fun h => kt ((iI_le rb ra).mp h)) (fun h => kf (Int.not_le.mp (fun q => h ((iI_le rb ra).mpr q))))
theorem bq_gt (hx : p.tables.exec = Jvm.exec) (hb : c.code = cc) {a b off : Int} {tgt : Nat} (hdg : decode cc pc = .ok (.if_icmp .gt off, 3)) (ht : (pc : Int) + off = (tgt : Int)) (ra : rg a) (rb : rg b)
    (kt : b < a → W p l e R s m args below meth c H locs cells slots Q (F0 m tgt ls rest)) (kf : a ≤ b → W p l e R s m args below meth c H locs cells slots Q (F0 m (pc + 3) ls rest)) : W p l e R s m args below meth c H locs cells slots Q (F0 m pc ls (.int (iI b) :: .int (iI a) :: rest)) :=
  lv_icmp_gt hx hb hdg ht (fun h => kt ((iI_lt rb ra).mp h)) (fun h => kf (Int.not_lt.mp (fun q => h ((iI_lt rb ra).mpr q))))
theorem bq_le (hx : p.tables.exec = Jvm.exec) (hb : c.code = cc) {a b off : Int} {tgt : Nat} (hdg : decode cc pc = .ok (.if_icmp .le off, 3)) (ht : (pc : Int) + off = (tgt : Int)) (ra : rg a) (rb : rg b)
    (kt : a ≤ b → W p l e R s m args below meth c H locs cells slots Q (F0 m tgt ls rest)) (kf : b < a → W p l e R s m args below meth c H locs cells slots Q (F0 m (pc + 3) ls rest)) : W p l e R s m args below meth c H locs cells slots Q (F0 m pc ls (.int (iI b) :: .int (iI a) :: rest)) :=
  lv_icmp_le hx hb hdg ht (fun h => kt ((iI_le ra rb).mp h)) (fun h => kf (Int.not_le.mp (fun q => h ((iI_le ra rb).mpr q))))
theorem bz_eq (hx : p.tables.exec = Jvm.exec) (hb : c.code = cc) {a off : Int} {tgt : Nat} (hdg : decode cc pc = .ok (.ifCond .eq off, 3)) (ht : (pc : Int) + off = (tgt : Int)) (ra : rg a)
    (kt : a = 0 → W p l e R s m args below meth c H locs cells slots Q (F0 m tgt ls rest)) (kf : a ≠ 0 → W p l e R s m args below meth c H locs cells slots Q (F0 m (pc + 3) ls rest)) : W p l e R s m args below meth c H locs cells slots Q (F0 m pc ls (.int (iI a) :: rest)) :=
  lv_if_eq hx hb hdg ht (fun h => kt ((iI_eq ra rg0).mp (h.trans iI_0))) (fun h => kf (fun q => h (((iI_eq ra rg0).mpr q).trans iI_0.symm)))
theorem bz_ne (hx : p.tables.exec = Jvm.exec) (hb : c.code = cc) {a off : Int} {tgt : Nat} (hdg : decode cc pc = .ok (.ifCond .ne off, 3)) (ht : (pc : Int) + off = (tgt : Int)) (ra : rg a)
    (kt : a ≠ 0 → W p l e R s m args below meth c H locs cells slots Q (F0 m tgt ls rest)) (kf : a = 0 → W p l e R s m args below meth c H locs cells slots Q (F0 m (pc + 3) ls rest)) : W p l e R s m args below meth c H locs cells slots Q (F0 m pc ls (.int (iI a) :: rest)) :=
  lv_if_ne hx hb hdg ht (fun h => kt (fun q => h (((iI_eq ra rg0).mpr q).trans iI_0.symm))) (fun h => kf ((iI_eq ra rg0).mp (h.trans iI_0)))
theorem bz_lt (hx : p.tables.exec = Jvm.exec) (hb : c.code = cc) {a off : Int} {tgt : Nat} (hdg : decode cc pc = .ok (.ifCond .lt off, 3)) (ht : (pc : Int) + off = (tgt : Int)) (ra : rg a)
    (kt : a < 0 → W p l e R s m args below meth c H locs cells slots Q (F0 m tgt ls rest)) (kf : 0 ≤ a → W p l e R s m args below meth c H locs cells slots Q (F0 m (pc + 3) ls rest)) : W p l e R s m args below meth c H locs cells slots Q (F0 m pc ls (.int (iI a) :: rest)) :=
  lv_if_lt hx hb hdg ht (fun h => kt ((iI_lt ra rg0).mp (by rw [← iI_0]; exact h))) (fun h => kf (Int.not_lt.mp (fun q => h (by rw [iI_0]; exact (iI_lt ra rg0).mpr q))))
theorem bz_ge (hx : p.tables.exec = Jvm.exec) (hb : c.code = cc) {a off : Int} {tgt : Nat} (hdg : decode cc pc = .ok (.ifCond .ge off, 3)) (ht : (pc : Int) + off = (tgt : Int)) (ra : rg a)
    (kt : 0 ≤ a → W p l e R s m args below meth c H locs cells slots Q (F0 m tgt ls rest)) (kf : a < 0 → W p l e R s m args below meth c H locs cells slots Q (F0 m (pc + 3) ls rest)) : W p l e R s m args below meth c H locs cells slots Q (F0 m pc ls (.int (iI a) :: rest)) :=
  lv_if_ge hx hb hdg ht (fun h => kt ((iI_le rg0 ra).mp (by rw [← iI_0]; exact h))) (fun h => kf (Int.not_le.mp (fun q => h (by rw [iI_0]; exact (iI_le rg0 ra).mpr q))))
theorem bz_gt (hx : p.tables.exec = Jvm.exec) (hb : c.code = cc) {a off : Int} {tgt : Nat} (hdg : decode cc pc = .ok (.ifCond .gt off, 3)) (ht : (pc : Int) + off = (tgt : Int)) (ra : rg a)
    (kt : 0 < a → W p l e R s m args below meth c H locs cells slots Q (F0 m tgt ls rest)) (kf : a ≤ 0 → W p l e R s m args below meth c H locs cells slots Q (F0 m (pc + 3) ls rest)) : W p l e R s m args below meth c H locs cells slots Q (F0 m pc ls (.int (iI a) :: rest)) :=
  lv_if_gt hx hb hdg ht (fun h => kt ((iI_lt rg0 ra).mp (by rw [← iI_0]; exact h))) (fun h => kf (Int.not_lt.mp (fun q => h (by rw [iI_0]; exact (iI_lt rg0 ra).mpr q))))
theorem bz_le (hx : p.tables.exec = Jvm.exec) (hb : c.code = cc) {a off : Int} {tgt : Nat} (hdg : decode cc pc = .ok (.ifCond .le off, 3)) (ht : (pc : Int) + off = (tgt : Int)) (ra : rg a)
    (kt : a ≤ 0 → W p l e R s m args below meth c H locs cells slots Q (F0 m tgt ls rest)) (kf : 0 < a → W p l e R s m args below meth c H locs cells slots Q (F0 m (pc + 3) ls rest)) : W p l e R s m args below meth c H locs cells slots Q (F0 m pc ls (.int (iI a) :: rest)) :=
  lv_if_le hx hb hdg ht (fun h => kt ((iI_le ra rg0).mp (by rw [← iI_0]; exact h))) (fun h => kf (Int.not_le.mp (fun q => h (by rw [iI_0]; exact (iI_le ra rg0).mpr q))))
/-! fields and arrays of the world -/
theorem gfG {C ref : String} {T : u_T} {N ci index : Nat} (C0 : Ct p s m args c g own cc nL) (hH : Hp g S s H locs) (k : Nat) {fs : List Value} (he : (Wl g S)[k]? = some (g.1 k, .inr (ci, fs))) (hc : vwCl[ci]? = some (C, T, N)) (hin : ∀ w ∈ u_ws C T N, w ∈ GL) (j : Nat) (hj : j < N)
    (hlink : Cond.fieldLink own index ref (T j).2.1 (T j).2.2.1 ∈ GL) (href : ref = (T j).1) {v : Value} (hv : fs[j]? = some v) (hdg : decode cc pc = .ok (.getfield index, 3))
    (kk : W p l e R s m args below meth c H locs cells slots Q (F0 m (pc + 3) ls (v :: rest))) : W p l e R s m args below meth c H locs cells slots Q (F0 m pc ls (.ref (g.1 k) :: rest)) :=
  va_get (Ts := GL) (own := own) (ref := ref) (C := C) (T := T) (N := N) (ci := ci) C0.1 C0.2.1 (fun w hw => C0.2.2.2.2.1.w hw) hin C0.2.2.2.1 C0.2.2.2.2.1.k hH.1 k he hc j hj (C0.2.2.2.2.1.w hlink) (fun _ h => by rw [href]; exact h) hv hdg kk
theorem gnG {C ref host : String} {T : u_T} {N ci index : Nat} (C0 : Ct p s m args c g own cc nL) (hH : Hp g S s H locs) (k : Nat) {fs : List Value} (he : (Wl g S)[k]? = some (g.1 k, .inr (ci, fs))) (hc : vwCl[ci]? = some (C, T, N)) (hin : ∀ w ∈ u_ws C T N, w ∈ GL) (j : Nat) (hj : j < N)
    (hlink : Cond.fieldLinkNest own index ref (T j).2.1 (T j).2.2.1 host ∈ NL) (href : ref = (T j).1) {v : Value} (hv : fs[j]? = some v) (hdg : decode cc pc = .ok (.getfield index, 3))
    (kk : W p l e R s m args below meth c H locs cells slots Q (F0 m (pc + 3) ls (v :: rest))) : W p l e R s m args below meth c H locs cells slots Q (F0 m pc ls (.ref (g.1 k) :: rest)) :=
  va_getN (Ts := GL) (own := own) (ref := ref) (C := C) (host := host) (T := T) (N := N) (ci := ci) C0.1 C0.2.1 (fun w hw => C0.2.2.2.2.1.w hw) hin C0.2.2.2.1 C0.2.2.2.2.1.k hH.1 k he hc j hj (C0.2.2.2.2.1.n hlink) (fun _ h => by rw [href]; exact h) hv hdg kk
theorem pfG {C ref : String} {T : u_T} {N ci index : Nat} (C0 : Ct p s m args c g own cc nL) (hH : Hp g S s H locs) (k : Nat) {fs : List Value} (he : (Wl g S)[k]? = some (g.1 k, .inr (ci, fs))) (hc : vwCl[ci]? = some (C, T, N)) (hin : ∀ w ∈ u_ws C T N, w ∈ GL) (ty0 : Nat → FieldType) (hty : ∀ k, k < N → parseFieldDescriptor (T k).2.2.1 = some (ty0 k)) (hnm : ∀ a, a < N → ∀ b, b < N → a ≠ b → (T a).2.1 ≠ (T b).2.1) (j : Nat) (hj : j < N)
    (hlink : Cond.fieldLink own index ref (T j).2.1 (T j).2.2.1 ∈ GL) (href : ref = (T j).1) (hfin : (T j).2.2.2 = false) (hd : parseFieldDescriptor (T j).2.2.1 = some .int) (hl : j < fs.length) {z : Int}
    (hset : (Wl g S).set k (g.1 k, .inr (ci, fs.set j (.int (iI z)))) = Wl g S') (hdg : decode cc pc = .ok (.putfield index, 3))
    (kk : ∀ (H1 : Heap) (locs1 : List Loc), Hp g S' s H1 locs1 → W p l e R s m args below meth c H1 locs1 cells slots Q (F0 m (pc + 3) ls rest)) : W p l e R s m args below meth c H locs cells slots Q (F0 m pc ls (.int (iI z) :: .ref (g.1 k) :: rest)) :=
  va_put (Ts := GL) (own := own) (ref := ref) (C := C) (T := T) (N := N) (ci := ci) C0.1 C0.2.1 (fun w hw => C0.2.2.2.2.1.w hw) hin ty0 hty hnm C0.2.2.2.1 C0.2.2.2.2.1.k hH.1 (C0.2.2.2.2.1.dd S) hH.2 k he hc j hj (C0.2.2.2.2.1.w hlink) (fun _ h => by rw [href]; exact h) hfin hd rfl rfl hl hdg (fun H1 locs1 h1 _ h3 => kk H1 locs1 ⟨by rw [← hset]; exact h1, h3⟩)
theorem alG (C0 : Ct p s m args c g own cc nL) (hH : Hp g S s H locs) (k n : Nat) (he : (Wl g S)[k]? = some (kA g S k n)) (hn : n ≤ 1000) {z : Int} (h0 : 0 ≤ z) (h1 : z < n) (hdg : decode cc pc = .ok (.iaload, 1))
    (kk : W p l e R s m args below meth c H locs cells slots Q (F0 m (pc + 1) ls (.int (iI (S k z)) :: rest))) : W p l e R s m args below meth c H locs cells slots Q (F0 m pc ls (.int (iI z) :: .ref (g.1 k) :: rest)) :=
  va_iald C0.1 C0.2.1 C0.2.2.2.2.1.k hH.1 k 0 he rfl (iI_in h0 h1 (by omega)) hdg (by rw [show (((iI z).toNatClampNeg : Nat) : Int) = z from iI_cl h0 (by omega)]; exact kk)
theorem asG (C0 : Ct p s m args c g own cc nL) (hH : Hp g S s H locs) (k n : Nat) (he : (Wl g S)[k]? = some (kA g S k n)) (hn : n ≤ 1000) {z x : Int} (hset : (Wl g S).set k (g.1 k, .inl (g.2.2.1, n, .inl (fun j : Nat => iI (ud (S k) z x j)))) = Wl g S') (h0 : 0 ≤ z) (h1 : z < n) (hdg : decode cc pc = .ok (.iastore, 1))
    (kk : ∀ (H1 : Heap) (locs1 : List Loc), Hp g S' s H1 locs1 → W p l e R s m args below meth c H1 locs1 cells slots Q (F0 m (pc + 1) ls rest)) : W p l e R s m args below meth c H locs cells slots Q (F0 m pc ls (.int (iI x) :: .int (iI z) :: .ref (g.1 k) :: rest)) :=
  va_iast C0.1 C0.2.1 C0.2.2.2.2.1.k hH.1 (C0.2.2.2.2.1.dd S) hH.2 k 0 he rfl (iI_in h0 h1 (by omega)) hdg (fun H1 locs1 h2 _ h4 => kk H1 locs1 ⟨by rw [← hset, ← upd_ud (S k) h0 (by omega)]; exact h2, h4⟩)
/-! calls -/
theorem Hp.pre {av : List Value} {U : State} (C0 : Ct p s m args c g own cc nL) (hH : Hp g S s H locs) (hU : U.heap = H) (hW : s.WarmedH U.vm) : PreG g av S av.toArray U :=
  ⟨rfl, GG.moved hW C0.2.2.2.2.1, by rw [hU]; exact ZZ.moved hW.alike (C0.2.2.2.2.2.kept hH.2.2.1), by rw [hU]; exact hH.1⟩
theorem Hp.call {st₀ t T' : State} {L : List Loc} {H1 : Heap} (hH : Hp g S s H locs) (h0 : st₀.heap = H) (h1 : t.heap = H1) (hL : ∀ q ∈ L, oA g q.base) (hP : va_P g.2.1 vwCl (Wl g S') t.heap) (hF : va_F (oA g) st₀ t) : Hp g S' s H1 (locs ++ L) := by
  subst h0; subst h1
  refine ⟨hP, Nat.le_trans hH.2.1 hF.1, fun q hq hA => (hF.2 q (Nat.lt_of_lt_of_le hq hH.2.1) hA).trans (hH.2.2.1 q hq hA), fun q hq => ?_⟩
  rcases List.mem_append.mp hq with h | h
  · exact hH.2.2.2 q h
  · exact hL q h
variable {index n maxL fr lo : Nat} {y : MethodName} {bytes : ByteArray} {ret : Option FieldType} {As : List Value} {stk : List Value} {v : Option Value} {b : Nat}
/-- the words of a call -/
def kwV (own : String) (index : Nat) (y : MethodName) (bytes : ByteArray) (maxL : Nat) (ret : Option FieldType) : Prop := Cond.methodLink own index y ∈ GL ∧ Cond.instanceMethod y ∈ GL ∧ Cond.selects y.cls y y ∈ GL ∧ Cond.code y bytes maxL ret ∈ GL ∧ Cond.initialized y.cls ∈ GL
def kwS (own : String) (index : Nat) (y : MethodName) (bytes : ByteArray) (maxL : Nat) (ret : Option FieldType) : Prop := Cond.methodLink own index y ∈ GL ∧ Cond.static y ∈ GL ∧ Cond.code y bytes maxL ret ∈ GL ∧ Cond.initialized y.cls ∈ GL
/-- what a name must be -/
def kyn (y : MethodName) (n : Nat) : Prop := y.cls ≠ "java/lang/invoke/MethodHandle" ∧ y.cls ≠ "java/lang/invoke/VarHandle" ∧ (parseMethodDescriptor y.desc).map (fun d => d.parameters.length) = some n
theorem kyn_len {y : MethodName} {n : Nat} (h : kyn y n) : ∀ sig, parseMethodDescriptor y.desc = some sig → n = sig.parameters.length := fun sig h1 => by
  have h2 := h.2.2
  rw [h1] at h2
  exact (Option.some.inj h2).symm
theorem cbG {rm : Room} {mc ms : Nat} (G0 : GG g s) (hl : Cond.methodLink own index y ∈ GL) (hc : Cond.code y bytes maxL ret ∈ GL) (hi : Cond.initialized y.cls ∈ GL) (hy : kyn y n) (hrc : rm.cells = mc) (hrs : rm.slots = ms) (hR : rm.frames + 1 ≤ R.frames ∧ 8 + (maxL + 11) + rm.locals ≤ R.locals) :
    CallB R s args own index y bytes maxL ret [.code y bytes maxL ret] rm mc ms n :=
  ⟨hrc, hrs, hR.1, hR.2, fun w hw a' U hW => by
    rw [List.mem_singleton] at hw
    subst hw
    exact word_at hW (good_of_word (List.mem_filter.mp hc).2) (G0.w (args := #[]) hc), List.mem_singleton.mpr rfl, G0.w hc, G0.w hi, ⟨hy.1, hy.2.1⟩, kyn_len hy, G0.w hl⟩
theorem cvG (C0 : Ct p s m args c g own cc nL) (hH : Hp g S s H locs) (hM : MetG l g y bytes maxL ret fr lo (.ref b :: As) S v S') (hw : kwV own index y bytes maxL ret) (hy : kyn y n) (hR : fr + 1 ≤ R.frames ∧ 8 + (maxL + 11) + lo ≤ R.locals) (hcs : cells ≤ R.cells ∧ slots ≤ R.slots)
    (k : Nat) {ci N : Nat} {T : u_T} {fs : List Value} (he : (Wl g S)[k]? = some (b, .inr (ci, fs))) (hc : vwCl[ci]? = some (y.cls, T, N)) (hn : As.length = n) (hsz : ls.size = nL) (hst : stk = As.reverse ++ .ref b :: rest) (hrest : (rest.map fun v => v.category).sum ≤ 8) (hdg : decode cc pc = .ok (.invokevirtual index, 3))
    (kk : ∀ (H1 : Heap) (locs1 : List Loc), Hp g S' s H1 locs1 → W p l e R s m args below meth c H1 locs1 cells slots Q (F0 m (pc + 3) ls (v.toList ++ rest))) : W p l e R s m args below meth c H locs cells slots Q (F0 m pc ls stk) := by
  subst hst
  have hr := va_runV (R := R) (args := args) (e := e) (below := below) (meth := meth) (cells := cells) (slots := slots) (Ts := GL) (C := y.cls) (b := b) (As := As) (rest := rest) (H := H) (locs := locs) (g := F0 m pc ls (As.reverse ++ .ref b :: rest)) ⟨C0.1, C0.2.1, C0.2.2.1, C0.2.2.2.1, fun w hw => C0.2.2.2.2.1.w hw⟩ hM
    ⟨cbG C0.2.2.2.2.1 hw.1 hw.2.2.2.1 hw.2.2.2.2 hy rfl rfl hR, C0.2.2.2.2.1.w hw.2.1, C0.2.2.2.2.1.w hw.2.2.1⟩ ⟨PreG.blind _ _ _, va_recv C0.2.2.2.2.1.k hH.1 hc he, fun U hU hW => hH.pre C0 hU hW⟩ rfl hn hsz rfl (lv_room hrest) hdg hcs
  intro T0 hT X
  obtain ⟨v', st₀, t, T', L, h0, X', hL, e1, e2, ⟨hv, hP1, hF⟩, stp⟩ := hr T0 hT X
  cases hv
  obtain ⟨t2, a1, b1⟩ := kk t.heap (locs ++ L) (hH.call (T' := T') h0 rfl hL hP1 hF) T' e1 X'
  exact ⟨t2, stp t2 a1, b1⟩
theorem csG (C0 : Ct p s m args c g own cc nL) (hH : Hp g S s H locs) (hM : MetG l g y bytes maxL ret fr lo As S v S') (hw : kwS own index y bytes maxL ret) (hy : kyn y n) (hR : fr + 1 ≤ R.frames ∧ 8 + (maxL + 11) + lo ≤ R.locals) (hcs : cells ≤ R.cells ∧ slots ≤ R.slots)
    (hn : As.length = n) (hsz : ls.size = nL) (hst : stk = As.reverse ++ rest) (hrest : (rest.map fun v => v.category).sum ≤ 8) (hdg : decode cc pc = .ok (.invokestatic index, 3))
    (kk : ∀ (H1 : Heap) (locs1 : List Loc), Hp g S' s H1 locs1 → W p l e R s m args below meth c H1 locs1 cells slots Q (F0 m (pc + 3) ls (v.toList ++ rest))) : W p l e R s m args below meth c H locs cells slots Q (F0 m pc ls stk) := by
  subst hst
  have hr := va_runS (R := R) (args := args) (e := e) (below := below) (meth := meth) (cells := cells) (slots := slots) (Ts := GL) (As := As) (rest := rest) (H := H) (locs := locs) (g := F0 m pc ls (As.reverse ++ rest)) ⟨C0.1, C0.2.1, C0.2.2.1, C0.2.2.2.1, fun w hw => C0.2.2.2.2.1.w hw⟩ hM
    ⟨cbG C0.2.2.2.2.1 hw.1 hw.2.2.1 hw.2.2.2 hy rfl rfl hR, C0.2.2.2.2.1.w hw.2.1⟩ ⟨PreG.blind _ _ _, fun U hU hW => hH.pre C0 hU hW⟩ rfl hn hsz rfl (lv_room hrest) hdg hcs
  intro T0 hT X
  obtain ⟨v', st₀, t, T', L, h0, X', hL, e1, e2, ⟨hv, hP1, hF⟩, stp⟩ := hr T0 hT X
  cases hv
  obtain ⟨t2, a1, b1⟩ := kk t.heap (locs ++ L) (hH.call (T' := T') h0 rfl hL hP1 hF) T' e1 X'
  exact ⟨t2, stp t2 a1, b1⟩
/-! a callee that throws, not caught here -/
theorem cvX {E : String} (C0 : Ct p s m args c g own cc nL) (ht : ∀ x ∈ c.exceptionTable.toList, False) (hlk : meth.locks = false) (hH : Hp g S s H locs) (hM : ThrG l g y bytes maxL ret fr lo (.ref b :: As) S E S') (hw : kwV own index y bytes maxL ret) (hy : kyn y n) (hR : fr + 1 ≤ R.frames ∧ 8 + (maxL + 11) + lo ≤ R.locals) (hcs : 0 + 1 ≤ R.cells ∧ 0 + 6 ≤ R.slots)
    (k : Nat) {ci N : Nat} {T : u_T} {fs : List Value} (he : (Wl g S)[k]? = some (b, .inr (ci, fs))) (hc : vwCl[ci]? = some (y.cls, T, N)) (hn : As.length = n) (hsz : ls.size = nL) (hst : stk = As.reverse ++ .ref b :: rest) (hrest : (rest.map fun v => v.category).sum ≤ 8) (hdg : decode cc pc = .ok (.invokevirtual index, 3)) :
    W p l e R s m args below meth c H locs 0 0 (vx_MQ below (fun _ _ _ _ => False) (XG g S' E) args s 1 6 (oA g)) (F0 m pc ls stk) := by
  subst hst
  have hr := vx_runV (R := R) (args := args) (e := e) (below := below) (meth := meth) (cells := 0) (slots := 0) (Ts := GL) (C := y.cls) (b := b) (As := As) (rest := rest) (H := H) (locs := locs) (g := F0 m pc ls (As.reverse ++ .ref b :: rest)) ⟨C0.1, C0.2.1, C0.2.2.1, C0.2.2.2.1, fun w hw => C0.2.2.2.2.1.w hw⟩ hM
    ⟨cbG C0.2.2.2.2.1 hw.1 hw.2.2.2.1 hw.2.2.2.2 hy rfl rfl hR, C0.2.2.2.2.1.w hw.2.1, C0.2.2.2.2.1.w hw.2.2.1⟩ ⟨PreG.blind _ _ _, va_recv C0.2.2.2.2.1.k hH.1 hc he, fun U hU hW => hH.pre C0 hU hW⟩ rfl hn hsz rfl (lv_room hrest) hdg hcs
  intro T0 hT X
  rcases hr T0 hT X with ⟨v, st₀, t, T', L, h0, X', hL, e1, e2, hq, stp⟩ | ⟨q, st₀, t, T', L, E', ce, h0, X', hL, e1, e2, ⟨rfl, hP1, hF⟩, hce, hcv, hcl, stp⟩
  · exact hq.elim
  · have h5 := hH.call (T' := T') h0 rfl hL hP1 hF
    obtain ⟨t2, a1, b1⟩ := vx_out (pc := pc) (ls := ls) (rest := rest) (q := q) (E := E') (Qc := fun _ _ _ _ => False) (XC := XG g S' E') (mc := 1) (ms := 6) (free := oA g) (fun x hx => (ht x hx).elim) hlk hce hcv hcl (fun t' ht' ha' => ⟨rfl, by rw [ht']; exact h5.1, h5.2.F ht'⟩) h5.2.2.2 (Nat.le_refl 1) (Nat.le_refl 6) T' e1 X'
    exact ⟨t2, stp.trans a1, b1⟩
theorem csX {E : String} (C0 : Ct p s m args c g own cc nL) (ht : ∀ x ∈ c.exceptionTable.toList, False) (hlk : meth.locks = false) (hH : Hp g S s H locs) (hM : ThrG l g y bytes maxL ret fr lo As S E S') (hw : kwS own index y bytes maxL ret) (hy : kyn y n) (hR : fr + 1 ≤ R.frames ∧ 8 + (maxL + 11) + lo ≤ R.locals) (hcs : 0 + 1 ≤ R.cells ∧ 0 + 6 ≤ R.slots)
    (hn : As.length = n) (hsz : ls.size = nL) (hst : stk = As.reverse ++ rest) (hrest : (rest.map fun v => v.category).sum ≤ 8) (hdg : decode cc pc = .ok (.invokestatic index, 3)) :
    W p l e R s m args below meth c H locs 0 0 (vx_MQ below (fun _ _ _ _ => False) (XG g S' E) args s 1 6 (oA g)) (F0 m pc ls stk) := by
  subst hst
  have hr := vx_runS (R := R) (args := args) (e := e) (below := below) (meth := meth) (cells := 0) (slots := 0) (Ts := GL) (As := As) (rest := rest) (H := H) (locs := locs) (g := F0 m pc ls (As.reverse ++ rest)) ⟨C0.1, C0.2.1, C0.2.2.1, C0.2.2.2.1, fun w hw => C0.2.2.2.2.1.w hw⟩ hM
    ⟨cbG C0.2.2.2.2.1 hw.1 hw.2.2.1 hw.2.2.2 hy rfl rfl hR, C0.2.2.2.2.1.w hw.2.1⟩ ⟨PreG.blind _ _ _, fun U hU hW => hH.pre C0 hU hW⟩ rfl hn hsz rfl (lv_room hrest) hdg hcs
  intro T0 hT X
  rcases hr T0 hT X with ⟨v, st₀, t, T', L, h0, X', hL, e1, e2, hq, stp⟩ | ⟨q, st₀, t, T', L, E', ce, h0, X', hL, e1, e2, ⟨rfl, hP1, hF⟩, hce, hcv, hcl, stp⟩
  · exact hq.elim
  · have h5 := hH.call (T' := T') h0 rfl hL hP1 hF
    obtain ⟨t2, a1, b1⟩ := vx_out (pc := pc) (ls := ls) (rest := rest) (q := q) (E := E') (Qc := fun _ _ _ _ => False) (XC := XG g S' E') (mc := 1) (ms := 6) (free := oA g) (fun x hx => (ht x hx).elim) hlk hce hcv hcl (fun t' ht' ha' => ⟨rfl, by rw [ht']; exact h5.1, h5.2.F ht'⟩) h5.2.2.2 (Nat.le_refl 1) (Nat.le_refl 6) T' e1 X'
    exact ⟨t2, stp.trans a1, b1⟩
/-! 'throw new E("text")' -/
theorem thG {cls text : String} {names : List String} {ik is ic : Nat} (hl : l.stackTraces = false) (C0 : Ct p s m args c g own cc nL) (ht : ∀ x ∈ c.exceptionTable.toList, False) (hlk : meth.locks = false) (hH : Hp g S s H locs) (ho : own = "SkyLoom") (hcls : Bundle.fit cls = true) (hnames : ∀ n ∈ names, Bundle.fit n = true)
    (hk : Cond.classLink own ik cls ∈ GL) (hini : Cond.initialized cls ∈ GL) (hstr : Cond.stringRef "SkyLoom" is text ∈ lw_tbl) (hat : ∀ w ∈ vx_atS own ic cls names, w.before args s = true)
    (hgood : ∀ w ∈ Cond.classLink own ik cls :: Cond.initialized cls :: vx_atS own ic cls names, vx_ot w = true) (hsz : ls.size = nL)
    (d0 : decode cc pc = .ok (.new ik, 3)) (d3 : decode cc (pc + 3) = .ok (.dup, 1)) (d4 : decode cc (pc + 4) = .ok (.ldc is, 2)) (d6 : decode cc (pc + 6) = .ok (.invokespecial ic, 3)) (d9 : decode cc (pc + 9) = .ok (.athrow, 1))
    (hRf : names.length + 3 < R.frames) (hRl : (rest.map fun v => v.category).sum + (13 * (names.length + 1) + 43) ≤ R.locals) (hRc : 0 + 1 ≤ R.cells) (hRs : 0 + 6 ≤ R.slots) :
    W p l e R s m args below meth c H locs 0 0 (vx_MQ below (fun _ _ _ _ => False) (XG g S cls) args s 1 6 (oA g)) (F0 m pc ls rest) := by
  subst ho
  exact vx_throwS (A := oA g) (sa := g.2.2.2.2 is) C0.1 C0.2.1 hl C0.2.2.2.1 hcls hnames (C0.2.2.2.2.1.w hk) (C0.2.2.2.2.1.w hini) (C0.2.2.2.2.1.2.2.2.2.1 is text hstr) hat hgood C0.2.2.2.2.2.1 C0.2.2.2.2.2.2 hH.2 (hsz.trans C0.2.2.1.symm) d0 d3 d4 d6 d9 (fun x hx => (ht x hx).elim) hRf hRl hRc hRs hlk
    (fun t _ h2 h3 => ⟨rfl, hH.1.kept (fun k q hq => h3 q.1 (hH.1 k q hq).lt), Nat.le_trans hH.2.1 h2, fun q hq hA => (h3 q (Nat.lt_of_lt_of_le hq hH.2.1)).trans (hH.2.2.1 q hq hA)⟩) hH.2.2.2 (Nat.le_refl 1) (Nat.le_refl 6)
end RW
theorem lpN {P : Nat → Prop} (h : ∀ k, (∀ j, j < k → P j) → P k) : ∀ k, P k := fun k => Nat.strongRecOn k h
end
section
theorem glAll : ∀ (ws : List Cond) (is : List Nat), ws.map some = is.map (fun i => lw_tbl[i]?) → ws.all goodWord = true → ∀ w ∈ ws, w ∈ GL := by
  intro ws is h hg w hw
  have h1 : some w ∈ ws.map some := List.mem_map.mpr ⟨w, hw, rfl⟩
  rw [h] at h1
  obtain ⟨i, -, hi⟩ := List.mem_map.mp h1
  exact gm i hi (List.all_eq_true.mp hg w hw)
theorem inG1 : ∀ w ∈ u_ws RX1 TX1 3, w ∈ GL := glAll _ [120, 122, 124] (by decide +kernel) (by decide +kernel)
theorem inG2 : ∀ w ∈ u_ws RX2 TX2 3, w ∈ GL := glAll _ [75, 77, 79] (by decide +kernel) (by decide +kernel)
theorem inG3 : ∀ w ∈ u_ws RX3 TX3 7, w ∈ GL := glAll _ [174, 176, 178, 180, 182, 184, 186] (by decide +kernel) (by decide +kernel)
theorem inG4 : ∀ w ∈ u_ws RX4 TX4 5, w ∈ GL := glAll _ [143, 145, 147, 149, 151] (by decide +kernel) (by decide +kernel)
theorem inG5 : ∀ w ∈ u_ws RX5 TX5 4, w ∈ GL := glAll _ [97, 99, 101, 103] (by decide +kernel) (by decide +kernel)
theorem inG6 : ∀ w ∈ u_ws RX6 TX6 5, w ∈ GL := glAll _ [194, 196, 198, 200, 202] (by decide +kernel) (by decide +kernel)
theorem inG7 : ∀ w ∈ u_ws RX7 TX7 14, w ∈ GL := glAll _ [674, 676, 678, 680, 682, 684, 686, 688, 690, 692, 694, 696, 698, 700] (by decide +kernel) (by decide +kernel)
section ST
variable {p : Program} {l : Launch} {e : Env} {R : Room} {s : State} {m : MethodId} {args : Array Value} {below : List Frame} {meth : Method} {c : Code} {H : Heap} {locs : List Loc} {cells slots : Nat} {Q : State → Prop} {g : gT} {cc : ByteArray} {nL : Nat} {S : gSt} {pc : Nat} {ls : Array Slot} {rest : List Value}
theorem gf_X6_12 (C0 : Ct p s m args c g RX6 cc nL) (hH : Hp g S s H locs) (hdg : decode cc pc = .ok (.getfield 12, 3)) (kk : W p l e R s m args below meth c H locs cells slots Q (F0 m (pc + 3) ls (.ref (g.1 1) :: rest))) : W p l e R s m args below meth c H locs cells slots Q (F0 m pc ls (.ref (g.1 0) :: rest)) :=
  gfG (ref := RX6) (C := RX6) (T := TX6) (N := 5) (ci := 5) C0 hH 0 rfl rfl inG6 0 (by decide) (gm 189 (by decide +kernel) rfl) rfl rfl hdg kk
theorem gf_X6_19 (C0 : Ct p s m args c g RX6 cc nL) (hH : Hp g S s H locs) (hdg : decode cc pc = .ok (.getfield 19, 3)) (kk : W p l e R s m args below meth c H locs cells slots Q (F0 m (pc + 3) ls (.ref (g.1 4) :: rest))) : W p l e R s m args below meth c H locs cells slots Q (F0 m pc ls (.ref (g.1 0) :: rest)) :=
  gfG (ref := RX6) (C := RX6) (T := TX6) (N := 5) (ci := 5) C0 hH 0 rfl rfl inG6 1 (by decide) (gm 190 (by decide +kernel) rfl) rfl rfl hdg kk
theorem gf_X6_26 (C0 : Ct p s m args c g RX6 cc nL) (hH : Hp g S s H locs) (hdg : decode cc pc = .ok (.getfield 26, 3)) (kk : W p l e R s m args below meth c H locs cells slots Q (F0 m (pc + 3) ls (.ref (g.1 8) :: rest))) : W p l e R s m args below meth c H locs cells slots Q (F0 m pc ls (.ref (g.1 0) :: rest)) :=
  gfG (ref := RX6) (C := RX6) (T := TX6) (N := 5) (ci := 5) C0 hH 0 rfl rfl inG6 2 (by decide) (gm 191 (by decide +kernel) rfl) rfl rfl hdg kk
theorem gf_X6_33 (C0 : Ct p s m args c g RX6 cc nL) (hH : Hp g S s H locs) (hdg : decode cc pc = .ok (.getfield 33, 3)) (kk : W p l e R s m args below meth c H locs cells slots Q (F0 m (pc + 3) ls (.ref (g.1 12) :: rest))) : W p l e R s m args below meth c H locs cells slots Q (F0 m pc ls (.ref (g.1 0) :: rest)) :=
  gfG (ref := RX6) (C := RX6) (T := TX6) (N := 5) (ci := 5) C0 hH 0 rfl rfl inG6 3 (by decide) (gm 192 (by decide +kernel) rfl) rfl rfl hdg kk
theorem gf_X6_40 (C0 : Ct p s m args c g RX6 cc nL) (hH : Hp g S s H locs) (hdg : decode cc pc = .ok (.getfield 40, 3)) (kk : W p l e R s m args below meth c H locs cells slots Q (F0 m (pc + 3) ls (.ref (g.1 17) :: rest))) : W p l e R s m args below meth c H locs cells slots Q (F0 m pc ls (.ref (g.1 0) :: rest)) :=
  gfG (ref := RX6) (C := RX6) (T := TX6) (N := 5) (ci := 5) C0 hH 0 rfl rfl inG6 4 (by decide) (gm 193 (by decide +kernel) rfl) rfl rfl hdg kk
theorem gf_X6_48 (C0 : Ct p s m args c g RX6 cc nL) (hH : Hp g S s H locs) (hdg : decode cc pc = .ok (.getfield 48, 3)) (kk : W p l e R s m args below meth c H locs cells slots Q (F0 m (pc + 3) ls (.int (iI (S 1 0)) :: rest))) : W p l e R s m args below meth c H locs cells slots Q (F0 m pc ls (.ref (g.1 1) :: rest)) :=
  gnG (ref := RX2) (C := RX2) (host := "SkyLoom") (T := TX2) (N := 3) (ci := 1) C0 hH 1 rfl rfl inG2 0 (by decide) (nmm 70 (by decide +kernel) rfl) rfl rfl hdg kk
theorem gf_X6_67 (C0 : Ct p s m args c g RX6 cc nL) (hH : Hp g S s H locs) (hdg : decode cc pc = .ok (.getfield 67, 3)) (kk : W p l e R s m args below meth c H locs cells slots Q (F0 m (pc + 3) ls (.ref (g.1 2) :: rest))) : W p l e R s m args below meth c H locs cells slots Q (F0 m pc ls (.ref (g.1 1) :: rest)) :=
  gnG (ref := RX2) (C := RX2) (host := "SkyLoom") (T := TX2) (N := 3) (ci := 1) C0 hH 1 rfl rfl inG2 1 (by decide) (nmm 72 (by decide +kernel) rfl) rfl rfl hdg kk
theorem gf_X6_71 (C0 : Ct p s m args c g RX6 cc nL) (hH : Hp g S s H locs) (hdg : decode cc pc = .ok (.getfield 71, 3)) (kk : W p l e R s m args below meth c H locs cells slots Q (F0 m (pc + 3) ls (.ref (g.1 3) :: rest))) : W p l e R s m args below meth c H locs cells slots Q (F0 m pc ls (.ref (g.1 1) :: rest)) :=
  gnG (ref := RX2) (C := RX2) (host := "SkyLoom") (T := TX2) (N := 3) (ci := 1) C0 hH 1 rfl rfl inG2 2 (by decide) (nmm 74 (by decide +kernel) rfl) rfl rfl hdg kk
theorem gf_X6_86 (C0 : Ct p s m args c g RX6 cc nL) (hH : Hp g S s H locs) (hdg : decode cc pc = .ok (.getfield 86, 3)) (kk : W p l e R s m args below meth c H locs cells slots Q (F0 m (pc + 3) ls (.int (iI (S 4 0)) :: rest))) : W p l e R s m args below meth c H locs cells slots Q (F0 m pc ls (.ref (g.1 4) :: rest)) :=
  gnG (ref := RX5) (C := RX5) (host := "SkyLoom") (T := TX5) (N := 4) (ci := 4) C0 hH 4 rfl rfl inG5 0 (by decide) (nmm 90 (by decide +kernel) rfl) rfl rfl hdg kk
theorem gf_X6_102 (C0 : Ct p s m args c g RX6 cc nL) (hH : Hp g S s H locs) (hdg : decode cc pc = .ok (.getfield 102, 3)) (kk : W p l e R s m args below meth c H locs cells slots Q (F0 m (pc + 3) ls (.ref (g.1 5) :: rest))) : W p l e R s m args below meth c H locs cells slots Q (F0 m pc ls (.ref (g.1 4) :: rest)) :=
  gnG (ref := RX5) (C := RX5) (host := "SkyLoom") (T := TX5) (N := 4) (ci := 4) C0 hH 4 rfl rfl inG5 1 (by decide) (nmm 92 (by decide +kernel) rfl) rfl rfl hdg kk
theorem gf_X6_131 (C0 : Ct p s m args c g RX6 cc nL) (hH : Hp g S s H locs) (hdg : decode cc pc = .ok (.getfield 131, 3)) (kk : W p l e R s m args below meth c H locs cells slots Q (F0 m (pc + 3) ls (.ref (g.1 6) :: rest))) : W p l e R s m args below meth c H locs cells slots Q (F0 m pc ls (.ref (g.1 4) :: rest)) :=
  gnG (ref := RX5) (C := RX5) (host := "SkyLoom") (T := TX5) (N := 4) (ci := 4) C0 hH 4 rfl rfl inG5 2 (by decide) (nmm 94 (by decide +kernel) rfl) rfl rfl hdg kk
theorem gf_X6_134 (C0 : Ct p s m args c g RX6 cc nL) (hH : Hp g S s H locs) (hdg : decode cc pc = .ok (.getfield 134, 3)) (kk : W p l e R s m args below meth c H locs cells slots Q (F0 m (pc + 3) ls (.ref (g.1 7) :: rest))) : W p l e R s m args below meth c H locs cells slots Q (F0 m pc ls (.ref (g.1 4) :: rest)) :=
  gnG (ref := RX5) (C := RX5) (host := "SkyLoom") (T := TX5) (N := 4) (ci := 4) C0 hH 4 rfl rfl inG5 3 (by decide) (nmm 96 (by decide +kernel) rfl) rfl rfl hdg kk
theorem gf_X6_140 (C0 : Ct p s m args c g RX6 cc nL) (hH : Hp g S s H locs) (hdg : decode cc pc = .ok (.getfield 140, 3)) (kk : W p l e R s m args below meth c H locs cells slots Q (F0 m (pc + 3) ls (.int (iI (S 17 1)) :: rest))) : W p l e R s m args below meth c H locs cells slots Q (F0 m pc ls (.ref (g.1 17) :: rest)) :=
  gnG (ref := RX3) (C := RX3) (host := "SkyLoom") (T := TX3) (N := 7) (ci := 2) C0 hH 17 rfl rfl inG3 1 (by decide) (nmm 163 (by decide +kernel) rfl) rfl rfl hdg kk
theorem gf_X6_148 (C0 : Ct p s m args c g RX6 cc nL) (hH : Hp g S s H locs) (hdg : decode cc pc = .ok (.getfield 148, 3)) (kk : W p l e R s m args below meth c H locs cells slots Q (F0 m (pc + 3) ls (.int (iI (S 17 0)) :: rest))) : W p l e R s m args below meth c H locs cells slots Q (F0 m pc ls (.ref (g.1 17) :: rest)) :=
  gnG (ref := RX3) (C := RX3) (host := "SkyLoom") (T := TX3) (N := 7) (ci := 2) C0 hH 17 rfl rfl inG3 0 (by decide) (nmm 161 (by decide +kernel) rfl) rfl rfl hdg kk
theorem gf_X6_170 (C0 : Ct p s m args c g RX6 cc nL) (hH : Hp g S s H locs) (hdg : decode cc pc = .ok (.getfield 170, 3)) (kk : W p l e R s m args below meth c H locs cells slots Q (F0 m (pc + 3) ls (.ref (g.1 10) :: rest))) : W p l e R s m args below meth c H locs cells slots Q (F0 m pc ls (.ref (g.1 8) :: rest)) :=
  gnG (ref := RX1) (C := RX1) (host := "SkyLoom") (T := TX1) (N := 3) (ci := 0) C0 hH 8 rfl rfl inG1 1 (by decide) (nmm 117 (by decide +kernel) rfl) rfl rfl hdg kk
theorem gf_X6_173 (C0 : Ct p s m args c g RX6 cc nL) (hH : Hp g S s H locs) (hdg : decode cc pc = .ok (.getfield 173, 3)) (kk : W p l e R s m args below meth c H locs cells slots Q (F0 m (pc + 3) ls (.ref (g.1 11) :: rest))) : W p l e R s m args below meth c H locs cells slots Q (F0 m pc ls (.ref (g.1 8) :: rest)) :=
  gnG (ref := RX1) (C := RX1) (host := "SkyLoom") (T := TX1) (N := 3) (ci := 0) C0 hH 8 rfl rfl inG1 2 (by decide) (nmm 119 (by decide +kernel) rfl) rfl rfl hdg kk
theorem gf_X6_205 (C0 : Ct p s m args c g RX6 cc nL) (hH : Hp g S s H locs) (hdg : decode cc pc = .ok (.getfield 205, 3)) (kk : W p l e R s m args below meth c H locs cells slots Q (F0 m (pc + 3) ls (.int (iI (S 12 0)) :: rest))) : W p l e R s m args below meth c H locs cells slots Q (F0 m pc ls (.ref (g.1 12) :: rest)) :=
  gnG (ref := RX4) (C := RX4) (host := "SkyLoom") (T := TX4) (N := 5) (ci := 3) C0 hH 12 rfl rfl inG4 0 (by decide) (nmm 134 (by decide +kernel) rfl) rfl rfl hdg kk
theorem gf_X6_235 (C0 : Ct p s m args c g RX6 cc nL) (hH : Hp g S s H locs) (hdg : decode cc pc = .ok (.getfield 235, 3)) (kk : W p l e R s m args below meth c H locs cells slots Q (F0 m (pc + 3) ls (.ref (g.1 19) :: rest))) : W p l e R s m args below meth c H locs cells slots Q (F0 m pc ls (.ref (g.1 17) :: rest)) :=
  gnG (ref := RX3) (C := RX3) (host := "SkyLoom") (T := TX3) (N := 7) (ci := 2) C0 hH 17 rfl rfl inG3 3 (by decide) (nmm 167 (by decide +kernel) rfl) rfl rfl hdg kk
theorem gf_X6_238 (C0 : Ct p s m args c g RX6 cc nL) (hH : Hp g S s H locs) (hdg : decode cc pc = .ok (.getfield 238, 3)) (kk : W p l e R s m args below meth c H locs cells slots Q (F0 m (pc + 3) ls (.ref (g.1 20) :: rest))) : W p l e R s m args below meth c H locs cells slots Q (F0 m pc ls (.ref (g.1 17) :: rest)) :=
  gnG (ref := RX3) (C := RX3) (host := "SkyLoom") (T := TX3) (N := 7) (ci := 2) C0 hH 17 rfl rfl inG3 4 (by decide) (nmm 169 (by decide +kernel) rfl) rfl rfl hdg kk
theorem gf_X6_241 (C0 : Ct p s m args c g RX6 cc nL) (hH : Hp g S s H locs) (hdg : decode cc pc = .ok (.getfield 241, 3)) (kk : W p l e R s m args below meth c H locs cells slots Q (F0 m (pc + 3) ls (.ref (g.1 21) :: rest))) : W p l e R s m args below meth c H locs cells slots Q (F0 m pc ls (.ref (g.1 17) :: rest)) :=
  gnG (ref := RX3) (C := RX3) (host := "SkyLoom") (T := TX3) (N := 7) (ci := 2) C0 hH 17 rfl rfl inG3 5 (by decide) (nmm 171 (by decide +kernel) rfl) rfl rfl hdg kk
theorem gf_X6_244 (C0 : Ct p s m args c g RX6 cc nL) (hH : Hp g S s H locs) (hdg : decode cc pc = .ok (.getfield 244, 3)) (kk : W p l e R s m args below meth c H locs cells slots Q (F0 m (pc + 3) ls (.ref (g.1 22) :: rest))) : W p l e R s m args below meth c H locs cells slots Q (F0 m pc ls (.ref (g.1 17) :: rest)) :=
  gnG (ref := RX3) (C := RX3) (host := "SkyLoom") (T := TX3) (N := 7) (ci := 2) C0 hH 17 rfl rfl inG3 6 (by decide) (nmm 173 (by decide +kernel) rfl) rfl rfl hdg kk
theorem gf_X6_247 (C0 : Ct p s m args c g RX6 cc nL) (hH : Hp g S s H locs) (hdg : decode cc pc = .ok (.getfield 247, 3)) (kk : W p l e R s m args below meth c H locs cells slots Q (F0 m (pc + 3) ls (.ref (g.1 18) :: rest))) : W p l e R s m args below meth c H locs cells slots Q (F0 m pc ls (.ref (g.1 17) :: rest)) :=
  gnG (ref := RX3) (C := RX3) (host := "SkyLoom") (T := TX3) (N := 7) (ci := 2) C0 hH 17 rfl rfl inG3 2 (by decide) (nmm 165 (by decide +kernel) rfl) rfl rfl hdg kk
theorem gf_X6_259 (C0 : Ct p s m args c g RX6 cc nL) (hH : Hp g S s H locs) (hdg : decode cc pc = .ok (.getfield 259, 3)) (kk : W p l e R s m args below meth c H locs cells slots Q (F0 m (pc + 3) ls (.ref (g.1 13) :: rest))) : W p l e R s m args below meth c H locs cells slots Q (F0 m pc ls (.ref (g.1 12) :: rest)) :=
  gnG (ref := RX4) (C := RX4) (host := "SkyLoom") (T := TX4) (N := 5) (ci := 3) C0 hH 12 rfl rfl inG4 1 (by decide) (nmm 136 (by decide +kernel) rfl) rfl rfl hdg kk
theorem gf_X6_262 (C0 : Ct p s m args c g RX6 cc nL) (hH : Hp g S s H locs) (hdg : decode cc pc = .ok (.getfield 262, 3)) (kk : W p l e R s m args below meth c H locs cells slots Q (F0 m (pc + 3) ls (.ref (g.1 14) :: rest))) : W p l e R s m args below meth c H locs cells slots Q (F0 m pc ls (.ref (g.1 12) :: rest)) :=
  gnG (ref := RX4) (C := RX4) (host := "SkyLoom") (T := TX4) (N := 5) (ci := 3) C0 hH 12 rfl rfl inG4 2 (by decide) (nmm 138 (by decide +kernel) rfl) rfl rfl hdg kk
theorem gf_X6_265 (C0 : Ct p s m args c g RX6 cc nL) (hH : Hp g S s H locs) (hdg : decode cc pc = .ok (.getfield 265, 3)) (kk : W p l e R s m args below meth c H locs cells slots Q (F0 m (pc + 3) ls (.ref (g.1 15) :: rest))) : W p l e R s m args below meth c H locs cells slots Q (F0 m pc ls (.ref (g.1 12) :: rest)) :=
  gnG (ref := RX4) (C := RX4) (host := "SkyLoom") (T := TX4) (N := 5) (ci := 3) C0 hH 12 rfl rfl inG4 3 (by decide) (nmm 140 (by decide +kernel) rfl) rfl rfl hdg kk
theorem gf_X6_268 (C0 : Ct p s m args c g RX6 cc nL) (hH : Hp g S s H locs) (hdg : decode cc pc = .ok (.getfield 268, 3)) (kk : W p l e R s m args below meth c H locs cells slots Q (F0 m (pc + 3) ls (.ref (g.1 16) :: rest))) : W p l e R s m args below meth c H locs cells slots Q (F0 m pc ls (.ref (g.1 12) :: rest)) :=
  gnG (ref := RX4) (C := RX4) (host := "SkyLoom") (T := TX4) (N := 5) (ci := 3) C0 hH 12 rfl rfl inG4 4 (by decide) (nmm 142 (by decide +kernel) rfl) rfl rfl hdg kk
theorem gf_X1_9 (C0 : Ct p s m args c g RX1 cc nL) (hH : Hp g S s H locs) (hdg : decode cc pc = .ok (.getfield 9, 3)) (kk : W p l e R s m args below meth c H locs cells slots Q (F0 m (pc + 3) ls (.ref (g.1 9) :: rest))) : W p l e R s m args below meth c H locs cells slots Q (F0 m pc ls (.ref (g.1 8) :: rest)) :=
  gfG (ref := RX1) (C := RX1) (T := TX1) (N := 3) (ci := 0) C0 hH 8 rfl rfl inG1 0 (by decide) (gm 115 (by decide +kernel) rfl) rfl rfl hdg kk
theorem gf_X1_15 (C0 : Ct p s m args c g RX1 cc nL) (hH : Hp g S s H locs) (hdg : decode cc pc = .ok (.getfield 15, 3)) (kk : W p l e R s m args below meth c H locs cells slots Q (F0 m (pc + 3) ls (.ref (g.1 10) :: rest))) : W p l e R s m args below meth c H locs cells slots Q (F0 m pc ls (.ref (g.1 8) :: rest)) :=
  gfG (ref := RX1) (C := RX1) (T := TX1) (N := 3) (ci := 0) C0 hH 8 rfl rfl inG1 1 (by decide) (gm 116 (by decide +kernel) rfl) rfl rfl hdg kk
theorem gf_X1_18 (C0 : Ct p s m args c g RX1 cc nL) (hH : Hp g S s H locs) (hdg : decode cc pc = .ok (.getfield 18, 3)) (kk : W p l e R s m args below meth c H locs cells slots Q (F0 m (pc + 3) ls (.ref (g.1 11) :: rest))) : W p l e R s m args below meth c H locs cells slots Q (F0 m pc ls (.ref (g.1 8) :: rest)) :=
  gfG (ref := RX1) (C := RX1) (T := TX1) (N := 3) (ci := 0) C0 hH 8 rfl rfl inG1 2 (by decide) (gm 118 (by decide +kernel) rfl) rfl rfl hdg kk
theorem gf_X2_9 (C0 : Ct p s m args c g RX2 cc nL) (hH : Hp g S s H locs) (hdg : decode cc pc = .ok (.getfield 9, 3)) (kk : W p l e R s m args below meth c H locs cells slots Q (F0 m (pc + 3) ls (.ref (g.1 2) :: rest))) : W p l e R s m args below meth c H locs cells slots Q (F0 m pc ls (.ref (g.1 1) :: rest)) :=
  gfG (ref := RX2) (C := RX2) (T := TX2) (N := 3) (ci := 1) C0 hH 1 rfl rfl inG2 1 (by decide) (gm 71 (by decide +kernel) rfl) rfl rfl hdg kk
theorem gf_X2_15 (C0 : Ct p s m args c g RX2 cc nL) (hH : Hp g S s H locs) (hdg : decode cc pc = .ok (.getfield 15, 3)) (kk : W p l e R s m args below meth c H locs cells slots Q (F0 m (pc + 3) ls (.ref (g.1 3) :: rest))) : W p l e R s m args below meth c H locs cells slots Q (F0 m pc ls (.ref (g.1 1) :: rest)) :=
  gfG (ref := RX2) (C := RX2) (T := TX2) (N := 3) (ci := 1) C0 hH 1 rfl rfl inG2 2 (by decide) (gm 73 (by decide +kernel) rfl) rfl rfl hdg kk
theorem gf_X2_18 (C0 : Ct p s m args c g RX2 cc nL) (hH : Hp g S s H locs) (hdg : decode cc pc = .ok (.getfield 18, 3)) (kk : W p l e R s m args below meth c H locs cells slots Q (F0 m (pc + 3) ls (.int (iI (S 1 0)) :: rest))) : W p l e R s m args below meth c H locs cells slots Q (F0 m pc ls (.ref (g.1 1) :: rest)) :=
  gfG (ref := RX2) (C := RX2) (T := TX2) (N := 3) (ci := 1) C0 hH 1 rfl rfl inG2 0 (by decide) (gm 69 (by decide +kernel) rfl) rfl rfl hdg kk
theorem pf_X2_18 {z : Int} (C0 : Ct p s m args c g RX2 cc nL) (hH : Hp g S s H locs) (hdg : decode cc pc = .ok (.putfield 18, 3)) (kk : ∀ (H1 : Heap) (locs1 : List Loc), Hp g (st S 1 0 z) s H1 locs1 → W p l e R s m args below meth c H1 locs1 cells slots Q (F0 m (pc + 3) ls (rest))) : W p l e R s m args below meth c H locs cells slots Q (F0 m pc ls (.int (iI z) :: .ref (g.1 1) :: rest)) :=
  pfG (ref := RX2) (C := RX2) (T := TX2) (N := 3) (ci := 1) C0 hH 1 rfl rfl inG2 tyX2 tyX2_ok nmX2 0 (by decide) (gm 69 (by decide +kernel) rfl) rfl rfl (by decide +kernel) (Nat.le_of_ble_eq_true rfl) rfl hdg kk
theorem gf_X3_9 (C0 : Ct p s m args c g RX3 cc nL) (hH : Hp g S s H locs) (hdg : decode cc pc = .ok (.getfield 9, 3)) (kk : W p l e R s m args below meth c H locs cells slots Q (F0 m (pc + 3) ls (.ref (g.1 18) :: rest))) : W p l e R s m args below meth c H locs cells slots Q (F0 m pc ls (.ref (g.1 17) :: rest)) :=
  gfG (ref := RX3) (C := RX3) (T := TX3) (N := 7) (ci := 2) C0 hH 17 rfl rfl inG3 2 (by decide) (gm 164 (by decide +kernel) rfl) rfl rfl hdg kk
theorem gf_X3_15 (C0 : Ct p s m args c g RX3 cc nL) (hH : Hp g S s H locs) (hdg : decode cc pc = .ok (.getfield 15, 3)) (kk : W p l e R s m args below meth c H locs cells slots Q (F0 m (pc + 3) ls (.ref (g.1 19) :: rest))) : W p l e R s m args below meth c H locs cells slots Q (F0 m pc ls (.ref (g.1 17) :: rest)) :=
  gfG (ref := RX3) (C := RX3) (T := TX3) (N := 7) (ci := 2) C0 hH 17 rfl rfl inG3 3 (by decide) (gm 166 (by decide +kernel) rfl) rfl rfl hdg kk
theorem gf_X3_18 (C0 : Ct p s m args c g RX3 cc nL) (hH : Hp g S s H locs) (hdg : decode cc pc = .ok (.getfield 18, 3)) (kk : W p l e R s m args below meth c H locs cells slots Q (F0 m (pc + 3) ls (.ref (g.1 20) :: rest))) : W p l e R s m args below meth c H locs cells slots Q (F0 m pc ls (.ref (g.1 17) :: rest)) :=
  gfG (ref := RX3) (C := RX3) (T := TX3) (N := 7) (ci := 2) C0 hH 17 rfl rfl inG3 4 (by decide) (gm 168 (by decide +kernel) rfl) rfl rfl hdg kk
theorem gf_X3_21 (C0 : Ct p s m args c g RX3 cc nL) (hH : Hp g S s H locs) (hdg : decode cc pc = .ok (.getfield 21, 3)) (kk : W p l e R s m args below meth c H locs cells slots Q (F0 m (pc + 3) ls (.ref (g.1 21) :: rest))) : W p l e R s m args below meth c H locs cells slots Q (F0 m pc ls (.ref (g.1 17) :: rest)) :=
  gfG (ref := RX3) (C := RX3) (T := TX3) (N := 7) (ci := 2) C0 hH 17 rfl rfl inG3 5 (by decide) (gm 170 (by decide +kernel) rfl) rfl rfl hdg kk
theorem gf_X3_24 (C0 : Ct p s m args c g RX3 cc nL) (hH : Hp g S s H locs) (hdg : decode cc pc = .ok (.getfield 24, 3)) (kk : W p l e R s m args below meth c H locs cells slots Q (F0 m (pc + 3) ls (.ref (g.1 22) :: rest))) : W p l e R s m args below meth c H locs cells slots Q (F0 m pc ls (.ref (g.1 17) :: rest)) :=
  gfG (ref := RX3) (C := RX3) (T := TX3) (N := 7) (ci := 2) C0 hH 17 rfl rfl inG3 6 (by decide) (gm 172 (by decide +kernel) rfl) rfl rfl hdg kk
theorem gf_X3_27 (C0 : Ct p s m args c g RX3 cc nL) (hH : Hp g S s H locs) (hdg : decode cc pc = .ok (.getfield 27, 3)) (kk : W p l e R s m args below meth c H locs cells slots Q (F0 m (pc + 3) ls (.int (iI (S 17 0)) :: rest))) : W p l e R s m args below meth c H locs cells slots Q (F0 m pc ls (.ref (g.1 17) :: rest)) :=
  gfG (ref := RX3) (C := RX3) (T := TX3) (N := 7) (ci := 2) C0 hH 17 rfl rfl inG3 0 (by decide) (gm 160 (by decide +kernel) rfl) rfl rfl hdg kk
theorem pf_X3_27 {z : Int} (C0 : Ct p s m args c g RX3 cc nL) (hH : Hp g S s H locs) (hdg : decode cc pc = .ok (.putfield 27, 3)) (kk : ∀ (H1 : Heap) (locs1 : List Loc), Hp g (st S 17 0 z) s H1 locs1 → W p l e R s m args below meth c H1 locs1 cells slots Q (F0 m (pc + 3) ls (rest))) : W p l e R s m args below meth c H locs cells slots Q (F0 m pc ls (.int (iI z) :: .ref (g.1 17) :: rest)) :=
  pfG (ref := RX3) (C := RX3) (T := TX3) (N := 7) (ci := 2) C0 hH 17 rfl rfl inG3 tyX3 tyX3_ok nmX3 0 (by decide) (gm 160 (by decide +kernel) rfl) rfl rfl (by decide +kernel) (Nat.le_of_ble_eq_true rfl) rfl hdg kk
theorem gf_X3_31 (C0 : Ct p s m args c g RX3 cc nL) (hH : Hp g S s H locs) (hdg : decode cc pc = .ok (.getfield 31, 3)) (kk : W p l e R s m args below meth c H locs cells slots Q (F0 m (pc + 3) ls (.int (iI (S 17 1)) :: rest))) : W p l e R s m args below meth c H locs cells slots Q (F0 m pc ls (.ref (g.1 17) :: rest)) :=
  gfG (ref := RX3) (C := RX3) (T := TX3) (N := 7) (ci := 2) C0 hH 17 rfl rfl inG3 1 (by decide) (gm 162 (by decide +kernel) rfl) rfl rfl hdg kk
theorem pf_X3_31 {z : Int} (C0 : Ct p s m args c g RX3 cc nL) (hH : Hp g S s H locs) (hdg : decode cc pc = .ok (.putfield 31, 3)) (kk : ∀ (H1 : Heap) (locs1 : List Loc), Hp g (st S 17 1 z) s H1 locs1 → W p l e R s m args below meth c H1 locs1 cells slots Q (F0 m (pc + 3) ls (rest))) : W p l e R s m args below meth c H locs cells slots Q (F0 m pc ls (.int (iI z) :: .ref (g.1 17) :: rest)) :=
  pfG (ref := RX3) (C := RX3) (T := TX3) (N := 7) (ci := 2) C0 hH 17 rfl rfl inG3 tyX3 tyX3_ok nmX3 1 (by decide) (gm 162 (by decide +kernel) rfl) rfl rfl (by decide +kernel) (Nat.le_of_ble_eq_true rfl) rfl hdg kk
theorem gf_X4_9 (C0 : Ct p s m args c g RX4 cc nL) (hH : Hp g S s H locs) (hdg : decode cc pc = .ok (.getfield 9, 3)) (kk : W p l e R s m args below meth c H locs cells slots Q (F0 m (pc + 3) ls (.ref (g.1 13) :: rest))) : W p l e R s m args below meth c H locs cells slots Q (F0 m pc ls (.ref (g.1 12) :: rest)) :=
  gfG (ref := RX4) (C := RX4) (T := TX4) (N := 5) (ci := 3) C0 hH 12 rfl rfl inG4 1 (by decide) (gm 135 (by decide +kernel) rfl) rfl rfl hdg kk
theorem gf_X4_15 (C0 : Ct p s m args c g RX4 cc nL) (hH : Hp g S s H locs) (hdg : decode cc pc = .ok (.getfield 15, 3)) (kk : W p l e R s m args below meth c H locs cells slots Q (F0 m (pc + 3) ls (.ref (g.1 14) :: rest))) : W p l e R s m args below meth c H locs cells slots Q (F0 m pc ls (.ref (g.1 12) :: rest)) :=
  gfG (ref := RX4) (C := RX4) (T := TX4) (N := 5) (ci := 3) C0 hH 12 rfl rfl inG4 2 (by decide) (gm 137 (by decide +kernel) rfl) rfl rfl hdg kk
theorem gf_X4_18 (C0 : Ct p s m args c g RX4 cc nL) (hH : Hp g S s H locs) (hdg : decode cc pc = .ok (.getfield 18, 3)) (kk : W p l e R s m args below meth c H locs cells slots Q (F0 m (pc + 3) ls (.ref (g.1 15) :: rest))) : W p l e R s m args below meth c H locs cells slots Q (F0 m pc ls (.ref (g.1 12) :: rest)) :=
  gfG (ref := RX4) (C := RX4) (T := TX4) (N := 5) (ci := 3) C0 hH 12 rfl rfl inG4 3 (by decide) (gm 139 (by decide +kernel) rfl) rfl rfl hdg kk
theorem gf_X4_21 (C0 : Ct p s m args c g RX4 cc nL) (hH : Hp g S s H locs) (hdg : decode cc pc = .ok (.getfield 21, 3)) (kk : W p l e R s m args below meth c H locs cells slots Q (F0 m (pc + 3) ls (.ref (g.1 16) :: rest))) : W p l e R s m args below meth c H locs cells slots Q (F0 m pc ls (.ref (g.1 12) :: rest)) :=
  gfG (ref := RX4) (C := RX4) (T := TX4) (N := 5) (ci := 3) C0 hH 12 rfl rfl inG4 4 (by decide) (gm 141 (by decide +kernel) rfl) rfl rfl hdg kk
theorem gf_X4_24 (C0 : Ct p s m args c g RX4 cc nL) (hH : Hp g S s H locs) (hdg : decode cc pc = .ok (.getfield 24, 3)) (kk : W p l e R s m args below meth c H locs cells slots Q (F0 m (pc + 3) ls (.int (iI (S 12 0)) :: rest))) : W p l e R s m args below meth c H locs cells slots Q (F0 m pc ls (.ref (g.1 12) :: rest)) :=
  gfG (ref := RX4) (C := RX4) (T := TX4) (N := 5) (ci := 3) C0 hH 12 rfl rfl inG4 0 (by decide) (gm 133 (by decide +kernel) rfl) rfl rfl hdg kk
theorem pf_X4_24 {z : Int} (C0 : Ct p s m args c g RX4 cc nL) (hH : Hp g S s H locs) (hdg : decode cc pc = .ok (.putfield 24, 3)) (kk : ∀ (H1 : Heap) (locs1 : List Loc), Hp g (st S 12 0 z) s H1 locs1 → W p l e R s m args below meth c H1 locs1 cells slots Q (F0 m (pc + 3) ls (rest))) : W p l e R s m args below meth c H locs cells slots Q (F0 m pc ls (.int (iI z) :: .ref (g.1 12) :: rest)) :=
  pfG (ref := RX4) (C := RX4) (T := TX4) (N := 5) (ci := 3) C0 hH 12 rfl rfl inG4 tyX4 tyX4_ok nmX4 0 (by decide) (gm 133 (by decide +kernel) rfl) rfl rfl (by decide +kernel) (Nat.le_of_ble_eq_true rfl) rfl hdg kk
theorem gf_X5_9 (C0 : Ct p s m args c g RX5 cc nL) (hH : Hp g S s H locs) (hdg : decode cc pc = .ok (.getfield 9, 3)) (kk : W p l e R s m args below meth c H locs cells slots Q (F0 m (pc + 3) ls (.ref (g.1 5) :: rest))) : W p l e R s m args below meth c H locs cells slots Q (F0 m pc ls (.ref (g.1 4) :: rest)) :=
  gfG (ref := RX5) (C := RX5) (T := TX5) (N := 4) (ci := 4) C0 hH 4 rfl rfl inG5 1 (by decide) (gm 91 (by decide +kernel) rfl) rfl rfl hdg kk
theorem gf_X5_15 (C0 : Ct p s m args c g RX5 cc nL) (hH : Hp g S s H locs) (hdg : decode cc pc = .ok (.getfield 15, 3)) (kk : W p l e R s m args below meth c H locs cells slots Q (F0 m (pc + 3) ls (.ref (g.1 6) :: rest))) : W p l e R s m args below meth c H locs cells slots Q (F0 m pc ls (.ref (g.1 4) :: rest)) :=
  gfG (ref := RX5) (C := RX5) (T := TX5) (N := 4) (ci := 4) C0 hH 4 rfl rfl inG5 2 (by decide) (gm 93 (by decide +kernel) rfl) rfl rfl hdg kk
theorem gf_X5_18 (C0 : Ct p s m args c g RX5 cc nL) (hH : Hp g S s H locs) (hdg : decode cc pc = .ok (.getfield 18, 3)) (kk : W p l e R s m args below meth c H locs cells slots Q (F0 m (pc + 3) ls (.ref (g.1 7) :: rest))) : W p l e R s m args below meth c H locs cells slots Q (F0 m pc ls (.ref (g.1 4) :: rest)) :=
  gfG (ref := RX5) (C := RX5) (T := TX5) (N := 4) (ci := 4) C0 hH 4 rfl rfl inG5 3 (by decide) (gm 95 (by decide +kernel) rfl) rfl rfl hdg kk
theorem gf_X5_21 (C0 : Ct p s m args c g RX5 cc nL) (hH : Hp g S s H locs) (hdg : decode cc pc = .ok (.getfield 21, 3)) (kk : W p l e R s m args below meth c H locs cells slots Q (F0 m (pc + 3) ls (.int (iI (S 4 0)) :: rest))) : W p l e R s m args below meth c H locs cells slots Q (F0 m pc ls (.ref (g.1 4) :: rest)) :=
  gfG (ref := RX5) (C := RX5) (T := TX5) (N := 4) (ci := 4) C0 hH 4 rfl rfl inG5 0 (by decide) (gm 89 (by decide +kernel) rfl) rfl rfl hdg kk
theorem pf_X5_21 {z : Int} (C0 : Ct p s m args c g RX5 cc nL) (hH : Hp g S s H locs) (hdg : decode cc pc = .ok (.putfield 21, 3)) (kk : ∀ (H1 : Heap) (locs1 : List Loc), Hp g (st S 4 0 z) s H1 locs1 → W p l e R s m args below meth c H1 locs1 cells slots Q (F0 m (pc + 3) ls (rest))) : W p l e R s m args below meth c H locs cells slots Q (F0 m pc ls (.int (iI z) :: .ref (g.1 4) :: rest)) :=
  pfG (ref := RX5) (C := RX5) (T := TX5) (N := 4) (ci := 4) C0 hH 4 rfl rfl inG5 tyX5 tyX5_ok nmX5 0 (by decide) (gm 89 (by decide +kernel) rfl) rfl rfl (by decide +kernel) (Nat.le_of_ble_eq_true rfl) rfl hdg kk
theorem gf_X7_7 (C0 : Ct p s m args c g RX7 cc nL) (hH : Hp g S s H locs) (hdg : decode cc pc = .ok (.getfield 7, 3)) (kk : W p l e R s m args below meth c H locs cells slots Q (F0 m (pc + 3) ls (.ref (g.1 24) :: rest))) : W p l e R s m args below meth c H locs cells slots Q (F0 m pc ls (.ref (g.1 23) :: rest)) :=
  gfG (ref := RX7) (C := RX7) (T := TX7) (N := 14) (ci := 6) C0 hH 23 rfl rfl inG7 1 (by decide) (gm 661 (by decide +kernel) rfl) rfl rfl hdg kk
theorem gf_X7_13 (C0 : Ct p s m args c g RX7 cc nL) (hH : Hp g S s H locs) (hdg : decode cc pc = .ok (.getfield 13, 3)) (kk : W p l e R s m args below meth c H locs cells slots Q (F0 m (pc + 3) ls (.ref (g.1 25) :: rest))) : W p l e R s m args below meth c H locs cells slots Q (F0 m pc ls (.ref (g.1 23) :: rest)) :=
  gfG (ref := RX7) (C := RX7) (T := TX7) (N := 14) (ci := 6) C0 hH 23 rfl rfl inG7 2 (by decide) (gm 662 (by decide +kernel) rfl) rfl rfl hdg kk
theorem gf_X7_16 (C0 : Ct p s m args c g RX7 cc nL) (hH : Hp g S s H locs) (hdg : decode cc pc = .ok (.getfield 16, 3)) (kk : W p l e R s m args below meth c H locs cells slots Q (F0 m (pc + 3) ls (.ref (g.1 26) :: rest))) : W p l e R s m args below meth c H locs cells slots Q (F0 m pc ls (.ref (g.1 23) :: rest)) :=
  gfG (ref := RX7) (C := RX7) (T := TX7) (N := 14) (ci := 6) C0 hH 23 rfl rfl inG7 4 (by decide) (gm 664 (by decide +kernel) rfl) rfl rfl hdg kk
theorem gf_X7_19 (C0 : Ct p s m args c g RX7 cc nL) (hH : Hp g S s H locs) (hdg : decode cc pc = .ok (.getfield 19, 3)) (kk : W p l e R s m args below meth c H locs cells slots Q (F0 m (pc + 3) ls (.ref (g.1 27) :: rest))) : W p l e R s m args below meth c H locs cells slots Q (F0 m pc ls (.ref (g.1 23) :: rest)) :=
  gfG (ref := RX7) (C := RX7) (T := TX7) (N := 14) (ci := 6) C0 hH 23 rfl rfl inG7 5 (by decide) (gm 665 (by decide +kernel) rfl) rfl rfl hdg kk
theorem gf_X7_22 (C0 : Ct p s m args c g RX7 cc nL) (hH : Hp g S s H locs) (hdg : decode cc pc = .ok (.getfield 22, 3)) (kk : W p l e R s m args below meth c H locs cells slots Q (F0 m (pc + 3) ls (.ref (g.1 28) :: rest))) : W p l e R s m args below meth c H locs cells slots Q (F0 m pc ls (.ref (g.1 23) :: rest)) :=
  gfG (ref := RX7) (C := RX7) (T := TX7) (N := 14) (ci := 6) C0 hH 23 rfl rfl inG7 6 (by decide) (gm 666 (by decide +kernel) rfl) rfl rfl hdg kk
theorem gf_X7_25 (C0 : Ct p s m args c g RX7 cc nL) (hH : Hp g S s H locs) (hdg : decode cc pc = .ok (.getfield 25, 3)) (kk : W p l e R s m args below meth c H locs cells slots Q (F0 m (pc + 3) ls (.ref (g.1 29) :: rest))) : W p l e R s m args below meth c H locs cells slots Q (F0 m pc ls (.ref (g.1 23) :: rest)) :=
  gfG (ref := RX7) (C := RX7) (T := TX7) (N := 14) (ci := 6) C0 hH 23 rfl rfl inG7 8 (by decide) (gm 668 (by decide +kernel) rfl) rfl rfl hdg kk
theorem gf_X7_28 (C0 : Ct p s m args c g RX7 cc nL) (hH : Hp g S s H locs) (hdg : decode cc pc = .ok (.getfield 28, 3)) (kk : W p l e R s m args below meth c H locs cells slots Q (F0 m (pc + 3) ls (.ref (g.1 30) :: rest))) : W p l e R s m args below meth c H locs cells slots Q (F0 m pc ls (.ref (g.1 23) :: rest)) :=
  gfG (ref := RX7) (C := RX7) (T := TX7) (N := 14) (ci := 6) C0 hH 23 rfl rfl inG7 9 (by decide) (gm 669 (by decide +kernel) rfl) rfl rfl hdg kk
theorem gf_X7_31 (C0 : Ct p s m args c g RX7 cc nL) (hH : Hp g S s H locs) (hdg : decode cc pc = .ok (.getfield 31, 3)) (kk : W p l e R s m args below meth c H locs cells slots Q (F0 m (pc + 3) ls (.ref (g.1 31) :: rest))) : W p l e R s m args below meth c H locs cells slots Q (F0 m pc ls (.ref (g.1 23) :: rest)) :=
  gfG (ref := RX7) (C := RX7) (T := TX7) (N := 14) (ci := 6) C0 hH 23 rfl rfl inG7 10 (by decide) (gm 670 (by decide +kernel) rfl) rfl rfl hdg kk
theorem gf_X7_34 (C0 : Ct p s m args c g RX7 cc nL) (hH : Hp g S s H locs) (hdg : decode cc pc = .ok (.getfield 34, 3)) (kk : W p l e R s m args below meth c H locs cells slots Q (F0 m (pc + 3) ls (.ref (g.1 32) :: rest))) : W p l e R s m args below meth c H locs cells slots Q (F0 m pc ls (.ref (g.1 23) :: rest)) :=
  gfG (ref := RX7) (C := RX7) (T := TX7) (N := 14) (ci := 6) C0 hH 23 rfl rfl inG7 12 (by decide) (gm 672 (by decide +kernel) rfl) rfl rfl hdg kk
theorem gf_X7_37 (C0 : Ct p s m args c g RX7 cc nL) (hH : Hp g S s H locs) (hdg : decode cc pc = .ok (.getfield 37, 3)) (kk : W p l e R s m args below meth c H locs cells slots Q (F0 m (pc + 3) ls (.int (iI (S 23 0)) :: rest))) : W p l e R s m args below meth c H locs cells slots Q (F0 m pc ls (.ref (g.1 23) :: rest)) :=
  gfG (ref := RX7) (C := RX7) (T := TX7) (N := 14) (ci := 6) C0 hH 23 rfl rfl inG7 0 (by decide) (gm 660 (by decide +kernel) rfl) rfl rfl hdg kk
theorem pf_X7_37 {z : Int} (C0 : Ct p s m args c g RX7 cc nL) (hH : Hp g S s H locs) (hdg : decode cc pc = .ok (.putfield 37, 3)) (kk : ∀ (H1 : Heap) (locs1 : List Loc), Hp g (st S 23 0 z) s H1 locs1 → W p l e R s m args below meth c H1 locs1 cells slots Q (F0 m (pc + 3) ls (rest))) : W p l e R s m args below meth c H locs cells slots Q (F0 m pc ls (.int (iI z) :: .ref (g.1 23) :: rest)) :=
  pfG (ref := RX7) (C := RX7) (T := TX7) (N := 14) (ci := 6) C0 hH 23 rfl rfl inG7 tyX7 tyX7_ok nmX7 0 (by decide) (gm 660 (by decide +kernel) rfl) rfl rfl (by decide +kernel) (Nat.le_of_ble_eq_true rfl) rfl hdg kk
theorem gf_X7_41 (C0 : Ct p s m args c g RX7 cc nL) (hH : Hp g S s H locs) (hdg : decode cc pc = .ok (.getfield 41, 3)) (kk : W p l e R s m args below meth c H locs cells slots Q (F0 m (pc + 3) ls (.int (iI (S 23 3)) :: rest))) : W p l e R s m args below meth c H locs cells slots Q (F0 m pc ls (.ref (g.1 23) :: rest)) :=
  gfG (ref := RX7) (C := RX7) (T := TX7) (N := 14) (ci := 6) C0 hH 23 rfl rfl inG7 3 (by decide) (gm 663 (by decide +kernel) rfl) rfl rfl hdg kk
theorem pf_X7_41 {z : Int} (C0 : Ct p s m args c g RX7 cc nL) (hH : Hp g S s H locs) (hdg : decode cc pc = .ok (.putfield 41, 3)) (kk : ∀ (H1 : Heap) (locs1 : List Loc), Hp g (st S 23 3 z) s H1 locs1 → W p l e R s m args below meth c H1 locs1 cells slots Q (F0 m (pc + 3) ls (rest))) : W p l e R s m args below meth c H locs cells slots Q (F0 m pc ls (.int (iI z) :: .ref (g.1 23) :: rest)) :=
  pfG (ref := RX7) (C := RX7) (T := TX7) (N := 14) (ci := 6) C0 hH 23 rfl rfl inG7 tyX7 tyX7_ok nmX7 3 (by decide) (gm 663 (by decide +kernel) rfl) rfl rfl (by decide +kernel) (Nat.le_of_ble_eq_true rfl) rfl hdg kk
theorem gf_X7_48 (C0 : Ct p s m args c g RX7 cc nL) (hH : Hp g S s H locs) (hdg : decode cc pc = .ok (.getfield 48, 3)) (kk : W p l e R s m args below meth c H locs cells slots Q (F0 m (pc + 3) ls (.int (iI (S 23 7)) :: rest))) : W p l e R s m args below meth c H locs cells slots Q (F0 m pc ls (.ref (g.1 23) :: rest)) :=
  gfG (ref := RX7) (C := RX7) (T := TX7) (N := 14) (ci := 6) C0 hH 23 rfl rfl inG7 7 (by decide) (gm 667 (by decide +kernel) rfl) rfl rfl hdg kk
theorem pf_X7_48 {z : Int} (C0 : Ct p s m args c g RX7 cc nL) (hH : Hp g S s H locs) (hdg : decode cc pc = .ok (.putfield 48, 3)) (kk : ∀ (H1 : Heap) (locs1 : List Loc), Hp g (st S 23 7 z) s H1 locs1 → W p l e R s m args below meth c H1 locs1 cells slots Q (F0 m (pc + 3) ls (rest))) : W p l e R s m args below meth c H locs cells slots Q (F0 m pc ls (.int (iI z) :: .ref (g.1 23) :: rest)) :=
  pfG (ref := RX7) (C := RX7) (T := TX7) (N := 14) (ci := 6) C0 hH 23 rfl rfl inG7 tyX7 tyX7_ok nmX7 7 (by decide) (gm 667 (by decide +kernel) rfl) rfl rfl (by decide +kernel) (Nat.le_of_ble_eq_true rfl) rfl hdg kk
theorem gf_X7_59 (C0 : Ct p s m args c g RX7 cc nL) (hH : Hp g S s H locs) (hdg : decode cc pc = .ok (.getfield 59, 3)) (kk : W p l e R s m args below meth c H locs cells slots Q (F0 m (pc + 3) ls (.int (iI (S 23 13)) :: rest))) : W p l e R s m args below meth c H locs cells slots Q (F0 m pc ls (.ref (g.1 23) :: rest)) :=
  gfG (ref := RX7) (C := RX7) (T := TX7) (N := 14) (ci := 6) C0 hH 23 rfl rfl inG7 13 (by decide) (gm 673 (by decide +kernel) rfl) rfl rfl hdg kk
theorem pf_X7_59 {z : Int} (C0 : Ct p s m args c g RX7 cc nL) (hH : Hp g S s H locs) (hdg : decode cc pc = .ok (.putfield 59, 3)) (kk : ∀ (H1 : Heap) (locs1 : List Loc), Hp g (st S 23 13 z) s H1 locs1 → W p l e R s m args below meth c H1 locs1 cells slots Q (F0 m (pc + 3) ls (rest))) : W p l e R s m args below meth c H locs cells slots Q (F0 m pc ls (.int (iI z) :: .ref (g.1 23) :: rest)) :=
  pfG (ref := RX7) (C := RX7) (T := TX7) (N := 14) (ci := 6) C0 hH 23 rfl rfl inG7 tyX7 tyX7_ok nmX7 13 (by decide) (gm 673 (by decide +kernel) rfl) rfl rfl (by decide +kernel) (Nat.le_of_ble_eq_true rfl) rfl hdg kk
theorem gf_X7_144 (C0 : Ct p s m args c g RX7 cc nL) (hH : Hp g S s H locs) (hdg : decode cc pc = .ok (.getfield 144, 3)) (kk : W p l e R s m args below meth c H locs cells slots Q (F0 m (pc + 3) ls (.int (iI (S 23 11)) :: rest))) : W p l e R s m args below meth c H locs cells slots Q (F0 m pc ls (.ref (g.1 23) :: rest)) :=
  gfG (ref := RX7) (C := RX7) (T := TX7) (N := 14) (ci := 6) C0 hH 23 rfl rfl inG7 11 (by decide) (gm 671 (by decide +kernel) rfl) rfl rfl hdg kk
theorem pf_X7_144 {z : Int} (C0 : Ct p s m args c g RX7 cc nL) (hH : Hp g S s H locs) (hdg : decode cc pc = .ok (.putfield 144, 3)) (kk : ∀ (H1 : Heap) (locs1 : List Loc), Hp g (st S 23 11 z) s H1 locs1 → W p l e R s m args below meth c H1 locs1 cells slots Q (F0 m (pc + 3) ls (rest))) : W p l e R s m args below meth c H locs cells slots Q (F0 m pc ls (.int (iI z) :: .ref (g.1 23) :: rest)) :=
  pfG (ref := RX7) (C := RX7) (T := TX7) (N := 14) (ci := 6) C0 hH 23 rfl rfl inG7 tyX7 tyX7_ok nmX7 11 (by decide) (gm 671 (by decide +kernel) rfl) rfl rfl (by decide +kernel) (Nat.le_of_ble_eq_true rfl) rfl hdg kk
theorem al_2 {own : String} {z : Int} (C0 : Ct p s m args c g own cc nL) (hH : Hp g S s H locs) (h0 : 0 ≤ z) (h1 : z < 24) (hdg : decode cc pc = .ok (.iaload, 1)) (kk : W p l e R s m args below meth c H locs cells slots Q (F0 m (pc + 1) ls (.int (iI (S 2 z)) :: rest))) : W p l e R s m args below meth c H locs cells slots Q (F0 m pc ls (.int (iI z) :: .ref (g.1 2) :: rest)) :=
  alG C0 hH 2 24 rfl (by decide) h0 h1 hdg kk
theorem as_2 {own : String} {z x : Int} (C0 : Ct p s m args c g own cc nL) (hH : Hp g S s H locs) (h0 : 0 ≤ z) (h1 : z < 24) (hdg : decode cc pc = .ok (.iastore, 1)) (kk : ∀ (H1 : Heap) (locs1 : List Loc), Hp g (st S 2 z x) s H1 locs1 → W p l e R s m args below meth c H1 locs1 cells slots Q (F0 m (pc + 1) ls (rest))) : W p l e R s m args below meth c H locs cells slots Q (F0 m pc ls (.int (iI x) :: .int (iI z) :: .ref (g.1 2) :: rest)) :=
  asG C0 hH 2 24 rfl (by decide) rfl h0 h1 hdg kk
theorem al_3 {own : String} {z : Int} (C0 : Ct p s m args c g own cc nL) (hH : Hp g S s H locs) (h0 : 0 ≤ z) (h1 : z < 24) (hdg : decode cc pc = .ok (.iaload, 1)) (kk : W p l e R s m args below meth c H locs cells slots Q (F0 m (pc + 1) ls (.int (iI (S 3 z)) :: rest))) : W p l e R s m args below meth c H locs cells slots Q (F0 m pc ls (.int (iI z) :: .ref (g.1 3) :: rest)) :=
  alG C0 hH 3 24 rfl (by decide) h0 h1 hdg kk
theorem as_3 {own : String} {z x : Int} (C0 : Ct p s m args c g own cc nL) (hH : Hp g S s H locs) (h0 : 0 ≤ z) (h1 : z < 24) (hdg : decode cc pc = .ok (.iastore, 1)) (kk : ∀ (H1 : Heap) (locs1 : List Loc), Hp g (st S 3 z x) s H1 locs1 → W p l e R s m args below meth c H1 locs1 cells slots Q (F0 m (pc + 1) ls (rest))) : W p l e R s m args below meth c H locs cells slots Q (F0 m pc ls (.int (iI x) :: .int (iI z) :: .ref (g.1 3) :: rest)) :=
  asG C0 hH 3 24 rfl (by decide) rfl h0 h1 hdg kk
theorem al_5 {own : String} {z : Int} (C0 : Ct p s m args c g own cc nL) (hH : Hp g S s H locs) (h0 : 0 ≤ z) (h1 : z < 8) (hdg : decode cc pc = .ok (.iaload, 1)) (kk : W p l e R s m args below meth c H locs cells slots Q (F0 m (pc + 1) ls (.int (iI (S 5 z)) :: rest))) : W p l e R s m args below meth c H locs cells slots Q (F0 m pc ls (.int (iI z) :: .ref (g.1 5) :: rest)) :=
  alG C0 hH 5 8 rfl (by decide) h0 h1 hdg kk
theorem as_5 {own : String} {z x : Int} (C0 : Ct p s m args c g own cc nL) (hH : Hp g S s H locs) (h0 : 0 ≤ z) (h1 : z < 8) (hdg : decode cc pc = .ok (.iastore, 1)) (kk : ∀ (H1 : Heap) (locs1 : List Loc), Hp g (st S 5 z x) s H1 locs1 → W p l e R s m args below meth c H1 locs1 cells slots Q (F0 m (pc + 1) ls (rest))) : W p l e R s m args below meth c H locs cells slots Q (F0 m pc ls (.int (iI x) :: .int (iI z) :: .ref (g.1 5) :: rest)) :=
  asG C0 hH 5 8 rfl (by decide) rfl h0 h1 hdg kk
theorem al_6 {own : String} {z : Int} (C0 : Ct p s m args c g own cc nL) (hH : Hp g S s H locs) (h0 : 0 ≤ z) (h1 : z < 80) (hdg : decode cc pc = .ok (.iaload, 1)) (kk : W p l e R s m args below meth c H locs cells slots Q (F0 m (pc + 1) ls (.int (iI (S 6 z)) :: rest))) : W p l e R s m args below meth c H locs cells slots Q (F0 m pc ls (.int (iI z) :: .ref (g.1 6) :: rest)) :=
  alG C0 hH 6 80 rfl (by decide) h0 h1 hdg kk
theorem as_6 {own : String} {z x : Int} (C0 : Ct p s m args c g own cc nL) (hH : Hp g S s H locs) (h0 : 0 ≤ z) (h1 : z < 80) (hdg : decode cc pc = .ok (.iastore, 1)) (kk : ∀ (H1 : Heap) (locs1 : List Loc), Hp g (st S 6 z x) s H1 locs1 → W p l e R s m args below meth c H1 locs1 cells slots Q (F0 m (pc + 1) ls (rest))) : W p l e R s m args below meth c H locs cells slots Q (F0 m pc ls (.int (iI x) :: .int (iI z) :: .ref (g.1 6) :: rest)) :=
  asG C0 hH 6 80 rfl (by decide) rfl h0 h1 hdg kk
theorem al_7 {own : String} {z : Int} (C0 : Ct p s m args c g own cc nL) (hH : Hp g S s H locs) (h0 : 0 ≤ z) (h1 : z < 80) (hdg : decode cc pc = .ok (.iaload, 1)) (kk : W p l e R s m args below meth c H locs cells slots Q (F0 m (pc + 1) ls (.int (iI (S 7 z)) :: rest))) : W p l e R s m args below meth c H locs cells slots Q (F0 m pc ls (.int (iI z) :: .ref (g.1 7) :: rest)) :=
  alG C0 hH 7 80 rfl (by decide) h0 h1 hdg kk
theorem as_7 {own : String} {z x : Int} (C0 : Ct p s m args c g own cc nL) (hH : Hp g S s H locs) (h0 : 0 ≤ z) (h1 : z < 80) (hdg : decode cc pc = .ok (.iastore, 1)) (kk : ∀ (H1 : Heap) (locs1 : List Loc), Hp g (st S 7 z x) s H1 locs1 → W p l e R s m args below meth c H1 locs1 cells slots Q (F0 m (pc + 1) ls (rest))) : W p l e R s m args below meth c H locs cells slots Q (F0 m pc ls (.int (iI x) :: .int (iI z) :: .ref (g.1 7) :: rest)) :=
  asG C0 hH 7 80 rfl (by decide) rfl h0 h1 hdg kk
theorem al_9 {own : String} {z : Int} (C0 : Ct p s m args c g own cc nL) (hH : Hp g S s H locs) (h0 : 0 ≤ z) (h1 : z < 48) (hdg : decode cc pc = .ok (.iaload, 1)) (kk : W p l e R s m args below meth c H locs cells slots Q (F0 m (pc + 1) ls (.int (iI (S 9 z)) :: rest))) : W p l e R s m args below meth c H locs cells slots Q (F0 m pc ls (.int (iI z) :: .ref (g.1 9) :: rest)) :=
  alG C0 hH 9 48 rfl (by decide) h0 h1 hdg kk
theorem as_9 {own : String} {z x : Int} (C0 : Ct p s m args c g own cc nL) (hH : Hp g S s H locs) (h0 : 0 ≤ z) (h1 : z < 48) (hdg : decode cc pc = .ok (.iastore, 1)) (kk : ∀ (H1 : Heap) (locs1 : List Loc), Hp g (st S 9 z x) s H1 locs1 → W p l e R s m args below meth c H1 locs1 cells slots Q (F0 m (pc + 1) ls (rest))) : W p l e R s m args below meth c H locs cells slots Q (F0 m pc ls (.int (iI x) :: .int (iI z) :: .ref (g.1 9) :: rest)) :=
  asG C0 hH 9 48 rfl (by decide) rfl h0 h1 hdg kk
theorem al_10 {own : String} {z : Int} (C0 : Ct p s m args c g own cc nL) (hH : Hp g S s H locs) (h0 : 0 ≤ z) (h1 : z < 80) (hdg : decode cc pc = .ok (.iaload, 1)) (kk : W p l e R s m args below meth c H locs cells slots Q (F0 m (pc + 1) ls (.int (iI (S 10 z)) :: rest))) : W p l e R s m args below meth c H locs cells slots Q (F0 m pc ls (.int (iI z) :: .ref (g.1 10) :: rest)) :=
  alG C0 hH 10 80 rfl (by decide) h0 h1 hdg kk
theorem as_10 {own : String} {z x : Int} (C0 : Ct p s m args c g own cc nL) (hH : Hp g S s H locs) (h0 : 0 ≤ z) (h1 : z < 80) (hdg : decode cc pc = .ok (.iastore, 1)) (kk : ∀ (H1 : Heap) (locs1 : List Loc), Hp g (st S 10 z x) s H1 locs1 → W p l e R s m args below meth c H1 locs1 cells slots Q (F0 m (pc + 1) ls (rest))) : W p l e R s m args below meth c H locs cells slots Q (F0 m pc ls (.int (iI x) :: .int (iI z) :: .ref (g.1 10) :: rest)) :=
  asG C0 hH 10 80 rfl (by decide) rfl h0 h1 hdg kk
theorem al_11 {own : String} {z : Int} (C0 : Ct p s m args c g own cc nL) (hH : Hp g S s H locs) (h0 : 0 ≤ z) (h1 : z < 8) (hdg : decode cc pc = .ok (.iaload, 1)) (kk : W p l e R s m args below meth c H locs cells slots Q (F0 m (pc + 1) ls (.int (iI (S 11 z)) :: rest))) : W p l e R s m args below meth c H locs cells slots Q (F0 m pc ls (.int (iI z) :: .ref (g.1 11) :: rest)) :=
  alG C0 hH 11 8 rfl (by decide) h0 h1 hdg kk
theorem as_11 {own : String} {z x : Int} (C0 : Ct p s m args c g own cc nL) (hH : Hp g S s H locs) (h0 : 0 ≤ z) (h1 : z < 8) (hdg : decode cc pc = .ok (.iastore, 1)) (kk : ∀ (H1 : Heap) (locs1 : List Loc), Hp g (st S 11 z x) s H1 locs1 → W p l e R s m args below meth c H1 locs1 cells slots Q (F0 m (pc + 1) ls (rest))) : W p l e R s m args below meth c H locs cells slots Q (F0 m pc ls (.int (iI x) :: .int (iI z) :: .ref (g.1 11) :: rest)) :=
  asG C0 hH 11 8 rfl (by decide) rfl h0 h1 hdg kk
theorem al_13 {own : String} {z : Int} (C0 : Ct p s m args c g own cc nL) (hH : Hp g S s H locs) (h0 : 0 ≤ z) (h1 : z < 12) (hdg : decode cc pc = .ok (.iaload, 1)) (kk : W p l e R s m args below meth c H locs cells slots Q (F0 m (pc + 1) ls (.int (iI (S 13 z)) :: rest))) : W p l e R s m args below meth c H locs cells slots Q (F0 m pc ls (.int (iI z) :: .ref (g.1 13) :: rest)) :=
  alG C0 hH 13 12 rfl (by decide) h0 h1 hdg kk
theorem as_13 {own : String} {z x : Int} (C0 : Ct p s m args c g own cc nL) (hH : Hp g S s H locs) (h0 : 0 ≤ z) (h1 : z < 12) (hdg : decode cc pc = .ok (.iastore, 1)) (kk : ∀ (H1 : Heap) (locs1 : List Loc), Hp g (st S 13 z x) s H1 locs1 → W p l e R s m args below meth c H1 locs1 cells slots Q (F0 m (pc + 1) ls (rest))) : W p l e R s m args below meth c H locs cells slots Q (F0 m pc ls (.int (iI x) :: .int (iI z) :: .ref (g.1 13) :: rest)) :=
  asG C0 hH 13 12 rfl (by decide) rfl h0 h1 hdg kk
theorem al_14 {own : String} {z : Int} (C0 : Ct p s m args c g own cc nL) (hH : Hp g S s H locs) (h0 : 0 ≤ z) (h1 : z < 12) (hdg : decode cc pc = .ok (.iaload, 1)) (kk : W p l e R s m args below meth c H locs cells slots Q (F0 m (pc + 1) ls (.int (iI (S 14 z)) :: rest))) : W p l e R s m args below meth c H locs cells slots Q (F0 m pc ls (.int (iI z) :: .ref (g.1 14) :: rest)) :=
  alG C0 hH 14 12 rfl (by decide) h0 h1 hdg kk
theorem as_14 {own : String} {z x : Int} (C0 : Ct p s m args c g own cc nL) (hH : Hp g S s H locs) (h0 : 0 ≤ z) (h1 : z < 12) (hdg : decode cc pc = .ok (.iastore, 1)) (kk : ∀ (H1 : Heap) (locs1 : List Loc), Hp g (st S 14 z x) s H1 locs1 → W p l e R s m args below meth c H1 locs1 cells slots Q (F0 m (pc + 1) ls (rest))) : W p l e R s m args below meth c H locs cells slots Q (F0 m pc ls (.int (iI x) :: .int (iI z) :: .ref (g.1 14) :: rest)) :=
  asG C0 hH 14 12 rfl (by decide) rfl h0 h1 hdg kk
theorem al_15 {own : String} {z : Int} (C0 : Ct p s m args c g own cc nL) (hH : Hp g S s H locs) (h0 : 0 ≤ z) (h1 : z < 12) (hdg : decode cc pc = .ok (.iaload, 1)) (kk : W p l e R s m args below meth c H locs cells slots Q (F0 m (pc + 1) ls (.int (iI (S 15 z)) :: rest))) : W p l e R s m args below meth c H locs cells slots Q (F0 m pc ls (.int (iI z) :: .ref (g.1 15) :: rest)) :=
  alG C0 hH 15 12 rfl (by decide) h0 h1 hdg kk
theorem as_15 {own : String} {z x : Int} (C0 : Ct p s m args c g own cc nL) (hH : Hp g S s H locs) (h0 : 0 ≤ z) (h1 : z < 12) (hdg : decode cc pc = .ok (.iastore, 1)) (kk : ∀ (H1 : Heap) (locs1 : List Loc), Hp g (st S 15 z x) s H1 locs1 → W p l e R s m args below meth c H1 locs1 cells slots Q (F0 m (pc + 1) ls (rest))) : W p l e R s m args below meth c H locs cells slots Q (F0 m pc ls (.int (iI x) :: .int (iI z) :: .ref (g.1 15) :: rest)) :=
  asG C0 hH 15 12 rfl (by decide) rfl h0 h1 hdg kk
theorem al_16 {own : String} {z : Int} (C0 : Ct p s m args c g own cc nL) (hH : Hp g S s H locs) (h0 : 0 ≤ z) (h1 : z < 12) (hdg : decode cc pc = .ok (.iaload, 1)) (kk : W p l e R s m args below meth c H locs cells slots Q (F0 m (pc + 1) ls (.int (iI (S 16 z)) :: rest))) : W p l e R s m args below meth c H locs cells slots Q (F0 m pc ls (.int (iI z) :: .ref (g.1 16) :: rest)) :=
  alG C0 hH 16 12 rfl (by decide) h0 h1 hdg kk
theorem as_16 {own : String} {z x : Int} (C0 : Ct p s m args c g own cc nL) (hH : Hp g S s H locs) (h0 : 0 ≤ z) (h1 : z < 12) (hdg : decode cc pc = .ok (.iastore, 1)) (kk : ∀ (H1 : Heap) (locs1 : List Loc), Hp g (st S 16 z x) s H1 locs1 → W p l e R s m args below meth c H1 locs1 cells slots Q (F0 m (pc + 1) ls (rest))) : W p l e R s m args below meth c H locs cells slots Q (F0 m pc ls (.int (iI x) :: .int (iI z) :: .ref (g.1 16) :: rest)) :=
  asG C0 hH 16 12 rfl (by decide) rfl h0 h1 hdg kk
theorem al_18 {own : String} {z : Int} (C0 : Ct p s m args c g own cc nL) (hH : Hp g S s H locs) (h0 : 0 ≤ z) (h1 : z < 30) (hdg : decode cc pc = .ok (.iaload, 1)) (kk : W p l e R s m args below meth c H locs cells slots Q (F0 m (pc + 1) ls (.int (iI (S 18 z)) :: rest))) : W p l e R s m args below meth c H locs cells slots Q (F0 m pc ls (.int (iI z) :: .ref (g.1 18) :: rest)) :=
  alG C0 hH 18 30 rfl (by decide) h0 h1 hdg kk
theorem as_18 {own : String} {z x : Int} (C0 : Ct p s m args c g own cc nL) (hH : Hp g S s H locs) (h0 : 0 ≤ z) (h1 : z < 30) (hdg : decode cc pc = .ok (.iastore, 1)) (kk : ∀ (H1 : Heap) (locs1 : List Loc), Hp g (st S 18 z x) s H1 locs1 → W p l e R s m args below meth c H1 locs1 cells slots Q (F0 m (pc + 1) ls (rest))) : W p l e R s m args below meth c H locs cells slots Q (F0 m pc ls (.int (iI x) :: .int (iI z) :: .ref (g.1 18) :: rest)) :=
  asG C0 hH 18 30 rfl (by decide) rfl h0 h1 hdg kk
theorem al_19 {own : String} {z : Int} (C0 : Ct p s m args c g own cc nL) (hH : Hp g S s H locs) (h0 : 0 ≤ z) (h1 : z < 30) (hdg : decode cc pc = .ok (.iaload, 1)) (kk : W p l e R s m args below meth c H locs cells slots Q (F0 m (pc + 1) ls (.int (iI (S 19 z)) :: rest))) : W p l e R s m args below meth c H locs cells slots Q (F0 m pc ls (.int (iI z) :: .ref (g.1 19) :: rest)) :=
  alG C0 hH 19 30 rfl (by decide) h0 h1 hdg kk
theorem as_19 {own : String} {z x : Int} (C0 : Ct p s m args c g own cc nL) (hH : Hp g S s H locs) (h0 : 0 ≤ z) (h1 : z < 30) (hdg : decode cc pc = .ok (.iastore, 1)) (kk : ∀ (H1 : Heap) (locs1 : List Loc), Hp g (st S 19 z x) s H1 locs1 → W p l e R s m args below meth c H1 locs1 cells slots Q (F0 m (pc + 1) ls (rest))) : W p l e R s m args below meth c H locs cells slots Q (F0 m pc ls (.int (iI x) :: .int (iI z) :: .ref (g.1 19) :: rest)) :=
  asG C0 hH 19 30 rfl (by decide) rfl h0 h1 hdg kk
theorem al_20 {own : String} {z : Int} (C0 : Ct p s m args c g own cc nL) (hH : Hp g S s H locs) (h0 : 0 ≤ z) (h1 : z < 30) (hdg : decode cc pc = .ok (.iaload, 1)) (kk : W p l e R s m args below meth c H locs cells slots Q (F0 m (pc + 1) ls (.int (iI (S 20 z)) :: rest))) : W p l e R s m args below meth c H locs cells slots Q (F0 m pc ls (.int (iI z) :: .ref (g.1 20) :: rest)) :=
  alG C0 hH 20 30 rfl (by decide) h0 h1 hdg kk
theorem as_20 {own : String} {z x : Int} (C0 : Ct p s m args c g own cc nL) (hH : Hp g S s H locs) (h0 : 0 ≤ z) (h1 : z < 30) (hdg : decode cc pc = .ok (.iastore, 1)) (kk : ∀ (H1 : Heap) (locs1 : List Loc), Hp g (st S 20 z x) s H1 locs1 → W p l e R s m args below meth c H1 locs1 cells slots Q (F0 m (pc + 1) ls (rest))) : W p l e R s m args below meth c H locs cells slots Q (F0 m pc ls (.int (iI x) :: .int (iI z) :: .ref (g.1 20) :: rest)) :=
  asG C0 hH 20 30 rfl (by decide) rfl h0 h1 hdg kk
theorem al_21 {own : String} {z : Int} (C0 : Ct p s m args c g own cc nL) (hH : Hp g S s H locs) (h0 : 0 ≤ z) (h1 : z < 30) (hdg : decode cc pc = .ok (.iaload, 1)) (kk : W p l e R s m args below meth c H locs cells slots Q (F0 m (pc + 1) ls (.int (iI (S 21 z)) :: rest))) : W p l e R s m args below meth c H locs cells slots Q (F0 m pc ls (.int (iI z) :: .ref (g.1 21) :: rest)) :=
  alG C0 hH 21 30 rfl (by decide) h0 h1 hdg kk
theorem as_21 {own : String} {z x : Int} (C0 : Ct p s m args c g own cc nL) (hH : Hp g S s H locs) (h0 : 0 ≤ z) (h1 : z < 30) (hdg : decode cc pc = .ok (.iastore, 1)) (kk : ∀ (H1 : Heap) (locs1 : List Loc), Hp g (st S 21 z x) s H1 locs1 → W p l e R s m args below meth c H1 locs1 cells slots Q (F0 m (pc + 1) ls (rest))) : W p l e R s m args below meth c H locs cells slots Q (F0 m pc ls (.int (iI x) :: .int (iI z) :: .ref (g.1 21) :: rest)) :=
  asG C0 hH 21 30 rfl (by decide) rfl h0 h1 hdg kk
theorem al_22 {own : String} {z : Int} (C0 : Ct p s m args c g own cc nL) (hH : Hp g S s H locs) (h0 : 0 ≤ z) (h1 : z < 30) (hdg : decode cc pc = .ok (.iaload, 1)) (kk : W p l e R s m args below meth c H locs cells slots Q (F0 m (pc + 1) ls (.int (iI (S 22 z)) :: rest))) : W p l e R s m args below meth c H locs cells slots Q (F0 m pc ls (.int (iI z) :: .ref (g.1 22) :: rest)) :=
  alG C0 hH 22 30 rfl (by decide) h0 h1 hdg kk
theorem as_22 {own : String} {z x : Int} (C0 : Ct p s m args c g own cc nL) (hH : Hp g S s H locs) (h0 : 0 ≤ z) (h1 : z < 30) (hdg : decode cc pc = .ok (.iastore, 1)) (kk : ∀ (H1 : Heap) (locs1 : List Loc), Hp g (st S 22 z x) s H1 locs1 → W p l e R s m args below meth c H1 locs1 cells slots Q (F0 m (pc + 1) ls (rest))) : W p l e R s m args below meth c H locs cells slots Q (F0 m pc ls (.int (iI x) :: .int (iI z) :: .ref (g.1 22) :: rest)) :=
  asG C0 hH 22 30 rfl (by decide) rfl h0 h1 hdg kk
theorem al_24 {own : String} {z : Int} (C0 : Ct p s m args c g own cc nL) (hH : Hp g S s H locs) (h0 : 0 ≤ z) (h1 : z < 24) (hdg : decode cc pc = .ok (.iaload, 1)) (kk : W p l e R s m args below meth c H locs cells slots Q (F0 m (pc + 1) ls (.int (iI (S 24 z)) :: rest))) : W p l e R s m args below meth c H locs cells slots Q (F0 m pc ls (.int (iI z) :: .ref (g.1 24) :: rest)) :=
  alG C0 hH 24 24 rfl (by decide) h0 h1 hdg kk
theorem as_24 {own : String} {z x : Int} (C0 : Ct p s m args c g own cc nL) (hH : Hp g S s H locs) (h0 : 0 ≤ z) (h1 : z < 24) (hdg : decode cc pc = .ok (.iastore, 1)) (kk : ∀ (H1 : Heap) (locs1 : List Loc), Hp g (st S 24 z x) s H1 locs1 → W p l e R s m args below meth c H1 locs1 cells slots Q (F0 m (pc + 1) ls (rest))) : W p l e R s m args below meth c H locs cells slots Q (F0 m pc ls (.int (iI x) :: .int (iI z) :: .ref (g.1 24) :: rest)) :=
  asG C0 hH 24 24 rfl (by decide) rfl h0 h1 hdg kk
theorem al_25 {own : String} {z : Int} (C0 : Ct p s m args c g own cc nL) (hH : Hp g S s H locs) (h0 : 0 ≤ z) (h1 : z < 24) (hdg : decode cc pc = .ok (.iaload, 1)) (kk : W p l e R s m args below meth c H locs cells slots Q (F0 m (pc + 1) ls (.int (iI (S 25 z)) :: rest))) : W p l e R s m args below meth c H locs cells slots Q (F0 m pc ls (.int (iI z) :: .ref (g.1 25) :: rest)) :=
  alG C0 hH 25 24 rfl (by decide) h0 h1 hdg kk
theorem as_25 {own : String} {z x : Int} (C0 : Ct p s m args c g own cc nL) (hH : Hp g S s H locs) (h0 : 0 ≤ z) (h1 : z < 24) (hdg : decode cc pc = .ok (.iastore, 1)) (kk : ∀ (H1 : Heap) (locs1 : List Loc), Hp g (st S 25 z x) s H1 locs1 → W p l e R s m args below meth c H1 locs1 cells slots Q (F0 m (pc + 1) ls (rest))) : W p l e R s m args below meth c H locs cells slots Q (F0 m pc ls (.int (iI x) :: .int (iI z) :: .ref (g.1 25) :: rest)) :=
  asG C0 hH 25 24 rfl (by decide) rfl h0 h1 hdg kk
theorem al_26 {own : String} {z : Int} (C0 : Ct p s m args c g own cc nL) (hH : Hp g S s H locs) (h0 : 0 ≤ z) (h1 : z < 80) (hdg : decode cc pc = .ok (.iaload, 1)) (kk : W p l e R s m args below meth c H locs cells slots Q (F0 m (pc + 1) ls (.int (iI (S 26 z)) :: rest))) : W p l e R s m args below meth c H locs cells slots Q (F0 m pc ls (.int (iI z) :: .ref (g.1 26) :: rest)) :=
  alG C0 hH 26 80 rfl (by decide) h0 h1 hdg kk
theorem as_26 {own : String} {z x : Int} (C0 : Ct p s m args c g own cc nL) (hH : Hp g S s H locs) (h0 : 0 ≤ z) (h1 : z < 80) (hdg : decode cc pc = .ok (.iastore, 1)) (kk : ∀ (H1 : Heap) (locs1 : List Loc), Hp g (st S 26 z x) s H1 locs1 → W p l e R s m args below meth c H1 locs1 cells slots Q (F0 m (pc + 1) ls (rest))) : W p l e R s m args below meth c H locs cells slots Q (F0 m pc ls (.int (iI x) :: .int (iI z) :: .ref (g.1 26) :: rest)) :=
  asG C0 hH 26 80 rfl (by decide) rfl h0 h1 hdg kk
theorem al_27 {own : String} {z : Int} (C0 : Ct p s m args c g own cc nL) (hH : Hp g S s H locs) (h0 : 0 ≤ z) (h1 : z < 80) (hdg : decode cc pc = .ok (.iaload, 1)) (kk : W p l e R s m args below meth c H locs cells slots Q (F0 m (pc + 1) ls (.int (iI (S 27 z)) :: rest))) : W p l e R s m args below meth c H locs cells slots Q (F0 m pc ls (.int (iI z) :: .ref (g.1 27) :: rest)) :=
  alG C0 hH 27 80 rfl (by decide) h0 h1 hdg kk
theorem as_27 {own : String} {z x : Int} (C0 : Ct p s m args c g own cc nL) (hH : Hp g S s H locs) (h0 : 0 ≤ z) (h1 : z < 80) (hdg : decode cc pc = .ok (.iastore, 1)) (kk : ∀ (H1 : Heap) (locs1 : List Loc), Hp g (st S 27 z x) s H1 locs1 → W p l e R s m args below meth c H1 locs1 cells slots Q (F0 m (pc + 1) ls (rest))) : W p l e R s m args below meth c H locs cells slots Q (F0 m pc ls (.int (iI x) :: .int (iI z) :: .ref (g.1 27) :: rest)) :=
  asG C0 hH 27 80 rfl (by decide) rfl h0 h1 hdg kk
theorem al_28 {own : String} {z : Int} (C0 : Ct p s m args c g own cc nL) (hH : Hp g S s H locs) (h0 : 0 ≤ z) (h1 : z < 8) (hdg : decode cc pc = .ok (.iaload, 1)) (kk : W p l e R s m args below meth c H locs cells slots Q (F0 m (pc + 1) ls (.int (iI (S 28 z)) :: rest))) : W p l e R s m args below meth c H locs cells slots Q (F0 m pc ls (.int (iI z) :: .ref (g.1 28) :: rest)) :=
  alG C0 hH 28 8 rfl (by decide) h0 h1 hdg kk
theorem as_28 {own : String} {z x : Int} (C0 : Ct p s m args c g own cc nL) (hH : Hp g S s H locs) (h0 : 0 ≤ z) (h1 : z < 8) (hdg : decode cc pc = .ok (.iastore, 1)) (kk : ∀ (H1 : Heap) (locs1 : List Loc), Hp g (st S 28 z x) s H1 locs1 → W p l e R s m args below meth c H1 locs1 cells slots Q (F0 m (pc + 1) ls (rest))) : W p l e R s m args below meth c H locs cells slots Q (F0 m pc ls (.int (iI x) :: .int (iI z) :: .ref (g.1 28) :: rest)) :=
  asG C0 hH 28 8 rfl (by decide) rfl h0 h1 hdg kk
theorem al_29 {own : String} {z : Int} (C0 : Ct p s m args c g own cc nL) (hH : Hp g S s H locs) (h0 : 0 ≤ z) (h1 : z < 48) (hdg : decode cc pc = .ok (.iaload, 1)) (kk : W p l e R s m args below meth c H locs cells slots Q (F0 m (pc + 1) ls (.int (iI (S 29 z)) :: rest))) : W p l e R s m args below meth c H locs cells slots Q (F0 m pc ls (.int (iI z) :: .ref (g.1 29) :: rest)) :=
  alG C0 hH 29 48 rfl (by decide) h0 h1 hdg kk
theorem as_29 {own : String} {z x : Int} (C0 : Ct p s m args c g own cc nL) (hH : Hp g S s H locs) (h0 : 0 ≤ z) (h1 : z < 48) (hdg : decode cc pc = .ok (.iastore, 1)) (kk : ∀ (H1 : Heap) (locs1 : List Loc), Hp g (st S 29 z x) s H1 locs1 → W p l e R s m args below meth c H1 locs1 cells slots Q (F0 m (pc + 1) ls (rest))) : W p l e R s m args below meth c H locs cells slots Q (F0 m pc ls (.int (iI x) :: .int (iI z) :: .ref (g.1 29) :: rest)) :=
  asG C0 hH 29 48 rfl (by decide) rfl h0 h1 hdg kk
theorem al_30 {own : String} {z : Int} (C0 : Ct p s m args c g own cc nL) (hH : Hp g S s H locs) (h0 : 0 ≤ z) (h1 : z < 8) (hdg : decode cc pc = .ok (.iaload, 1)) (kk : W p l e R s m args below meth c H locs cells slots Q (F0 m (pc + 1) ls (.int (iI (S 30 z)) :: rest))) : W p l e R s m args below meth c H locs cells slots Q (F0 m pc ls (.int (iI z) :: .ref (g.1 30) :: rest)) :=
  alG C0 hH 30 8 rfl (by decide) h0 h1 hdg kk
theorem as_30 {own : String} {z x : Int} (C0 : Ct p s m args c g own cc nL) (hH : Hp g S s H locs) (h0 : 0 ≤ z) (h1 : z < 8) (hdg : decode cc pc = .ok (.iastore, 1)) (kk : ∀ (H1 : Heap) (locs1 : List Loc), Hp g (st S 30 z x) s H1 locs1 → W p l e R s m args below meth c H1 locs1 cells slots Q (F0 m (pc + 1) ls (rest))) : W p l e R s m args below meth c H locs cells slots Q (F0 m pc ls (.int (iI x) :: .int (iI z) :: .ref (g.1 30) :: rest)) :=
  asG C0 hH 30 8 rfl (by decide) rfl h0 h1 hdg kk
theorem al_31 {own : String} {z : Int} (C0 : Ct p s m args c g own cc nL) (hH : Hp g S s H locs) (h0 : 0 ≤ z) (h1 : z < 60) (hdg : decode cc pc = .ok (.iaload, 1)) (kk : W p l e R s m args below meth c H locs cells slots Q (F0 m (pc + 1) ls (.int (iI (S 31 z)) :: rest))) : W p l e R s m args below meth c H locs cells slots Q (F0 m pc ls (.int (iI z) :: .ref (g.1 31) :: rest)) :=
  alG C0 hH 31 60 rfl (by decide) h0 h1 hdg kk
theorem as_31 {own : String} {z x : Int} (C0 : Ct p s m args c g own cc nL) (hH : Hp g S s H locs) (h0 : 0 ≤ z) (h1 : z < 60) (hdg : decode cc pc = .ok (.iastore, 1)) (kk : ∀ (H1 : Heap) (locs1 : List Loc), Hp g (st S 31 z x) s H1 locs1 → W p l e R s m args below meth c H1 locs1 cells slots Q (F0 m (pc + 1) ls (rest))) : W p l e R s m args below meth c H locs cells slots Q (F0 m pc ls (.int (iI x) :: .int (iI z) :: .ref (g.1 31) :: rest)) :=
  asG C0 hH 31 60 rfl (by decide) rfl h0 h1 hdg kk
theorem al_32 {own : String} {z : Int} (C0 : Ct p s m args c g own cc nL) (hH : Hp g S s H locs) (h0 : 0 ≤ z) (h1 : z < 150) (hdg : decode cc pc = .ok (.iaload, 1)) (kk : W p l e R s m args below meth c H locs cells slots Q (F0 m (pc + 1) ls (.int (iI (S 32 z)) :: rest))) : W p l e R s m args below meth c H locs cells slots Q (F0 m pc ls (.int (iI z) :: .ref (g.1 32) :: rest)) :=
  alG C0 hH 32 150 rfl (by decide) h0 h1 hdg kk
theorem as_32 {own : String} {z x : Int} (C0 : Ct p s m args c g own cc nL) (hH : Hp g S s H locs) (h0 : 0 ≤ z) (h1 : z < 150) (hdg : decode cc pc = .ok (.iastore, 1)) (kk : ∀ (H1 : Heap) (locs1 : List Loc), Hp g (st S 32 z x) s H1 locs1 → W p l e R s m args below meth c H1 locs1 cells slots Q (F0 m (pc + 1) ls (rest))) : W p l e R s m args below meth c H locs cells slots Q (F0 m pc ls (.int (iI x) :: .int (iI z) :: .ref (g.1 32) :: rest)) :=
  asG C0 hH 32 150 rfl (by decide) rfl h0 h1 hdg kk
end ST
theorem kw_X6_44 : kwS RX6 44 yX6_needPlace cX6_needPlace 2 none := ⟨gm 262 (by decide +kernel) rfl, gm 263 (by decide +kernel) rfl, gm 264 (by decide +kernel) rfl, gm 38 (by decide +kernel) rfl⟩
theorem kw_X6_59 : kwV RX6 59 yX2_append cX2_append 4 (some .int) := ⟨gm 350 (by decide +kernel) rfl, gm 351 (by decide +kernel) rfl, gm 352 (by decide +kernel) rfl, gm 353 (by decide +kernel) rfl, gm 39 (by decide +kernel) rfl⟩
theorem kw_X6_63 : kwV RX6 63 yX6_needStar cX6_needStar 2 none := ⟨gm 366 (by decide +kernel) rfl, gm 368 (by decide +kernel) rfl, gm 4 (by decide +kernel) rfl, gm 369 (by decide +kernel) rfl, gm 38 (by decide +kernel) rfl⟩
theorem kw_X6_74 : kwV RX6 74 yX3_keep cX3_keep 6 none := ⟨gm 386 (by decide +kernel) rfl, gm 387 (by decide +kernel) rfl, gm 388 (by decide +kernel) rfl, gm 389 (by decide +kernel) rfl, gm 44 (by decide +kernel) rfl⟩
theorem kw_X6_78 : kwV RX6 78 yX2_move cX2_move 4 none := ⟨gm 391 (by decide +kernel) rfl, gm 355 (by decide +kernel) rfl, gm 356 (by decide +kernel) rfl, gm 357 (by decide +kernel) rfl, gm 39 (by decide +kernel) rfl⟩
theorem kw_X6_82 : kwV RX6 82 yX6_countWrongShows cX6_countWrongShows 3 (some .int) := ⟨gm 217 (by decide +kernel) rfl, gm 219 (by decide +kernel) rfl, gm 0 (by decide +kernel) rfl, gm 220 (by decide +kernel) rfl, gm 38 (by decide +kernel) rfl⟩
theorem kw_X6_91 : kwV RX6 91 yX5_appendFigure cX5_appendFigure 2 (some .int) := ⟨gm 400 (by decide +kernel) rfl, gm 401 (by decide +kernel) rfl, gm 402 (by decide +kernel) rfl, gm 403 (by decide +kernel) rfl, gm 40 (by decide +kernel) rfl⟩
theorem kw_X6_94 : kwV RX6 94 yX6_needFigure cX6_needFigure 2 none := ⟨gm 411 (by decide +kernel) rfl, gm 413 (by decide +kernel) rfl, gm 5 (by decide +kernel) rfl, gm 414 (by decide +kernel) rfl, gm 38 (by decide +kernel) rfl⟩
theorem kw_X6_107 : kwV RX6 107 yX5_joins cX5_joins 8 (some .boolean) := ⟨gm 418 (by decide +kernel) rfl, gm 419 (by decide +kernel) rfl, gm 420 (by decide +kernel) rfl, gm 421 (by decide +kernel) rfl, gm 40 (by decide +kernel) rfl⟩
theorem kw_X6_113 : kwV RX6 113 yX5_isOfAnother cX5_isOfAnother 4 (some .boolean) := ⟨gm 424 (by decide +kernel) rfl, gm 425 (by decide +kernel) rfl, gm 426 (by decide +kernel) rfl, gm 427 (by decide +kernel) rfl, gm 40 (by decide +kernel) rfl⟩
theorem kw_X6_119 : kwV RX6 119 yX5_insert cX5_insert 7 none := ⟨gm 437 (by decide +kernel) rfl, gm 438 (by decide +kernel) rfl, gm 439 (by decide +kernel) rfl, gm 440 (by decide +kernel) rfl, gm 40 (by decide +kernel) rfl⟩
theorem kw_X6_128 : kwS RX6 128 yX5_place cX5_place 2 (some .int) := ⟨gm 229 (by decide +kernel) rfl, gm 230 (by decide +kernel) rfl, gm 231 (by decide +kernel) rfl, gm 40 (by decide +kernel) rfl⟩
theorem kw_X6_137 : kwV RX6 137 yX5_remove cX5_remove 5 none := ⟨gm 449 (by decide +kernel) rfl, gm 450 (by decide +kernel) rfl, gm 451 (by decide +kernel) rfl, gm 452 (by decide +kernel) rfl, gm 40 (by decide +kernel) rfl⟩
theorem kw_X6_145 : kwV RX6 145 yX3_stepBack cX3_stepBack 1 none := ⟨gm 461 (by decide +kernel) rfl, gm 462 (by decide +kernel) rfl, gm 463 (by decide +kernel) rfl, gm 464 (by decide +kernel) rfl, gm 44 (by decide +kernel) rfl⟩
theorem kw_X6_151 : kwV RX6 151 yX6_takeBack cX6_takeBack 6 none := ⟨gm 465 (by decide +kernel) rfl, gm 467 (by decide +kernel) rfl, gm 7 (by decide +kernel) rfl, gm 468 (by decide +kernel) rfl, gm 38 (by decide +kernel) rfl⟩
theorem kw_X6_154 : kwV RX6 154 yX5_ownerOf cX5_ownerOf 3 (some .int) := ⟨gm 490 (by decide +kernel) rfl, gm 429 (by decide +kernel) rfl, gm 430 (by decide +kernel) rfl, gm 431 (by decide +kernel) rfl, gm 40 (by decide +kernel) rfl⟩
theorem kw_X6_158 : kwV RX6 158 yX6_linesCross cX6_linesCross 8 (some .boolean) := ⟨gm 498 (by decide +kernel) rfl, gm 500 (by decide +kernel) rfl, gm 8 (by decide +kernel) rfl, gm 501 (by decide +kernel) rfl, gm 38 (by decide +kernel) rfl⟩
theorem kw_X6_163 : kwS RX6 163 yX6_needName cX6_needName 1 none := ⟨gm 532 (by decide +kernel) rfl, gm 533 (by decide +kernel) rfl, gm 534 (by decide +kernel) rfl, gm 38 (by decide +kernel) rfl⟩
theorem kw_X6_166 : kwV RX6 166 yX1_replace cX1_replace 6 (some .int) := ⟨gm 536 (by decide +kernel) rfl, gm 537 (by decide +kernel) rfl, gm 538 (by decide +kernel) rfl, gm 539 (by decide +kernel) rfl, gm 41 (by decide +kernel) rfl⟩
theorem kw_X6_176 : kwS RX6 176 yX6_needLatitude cX6_needLatitude 1 none := ⟨gm 573 (by decide +kernel) rfl, gm 574 (by decide +kernel) rfl, gm 575 (by decide +kernel) rfl, gm 38 (by decide +kernel) rfl⟩
theorem kw_X6_179 : kwS RX6 179 yX6_needDay cX6_needDay 1 none := ⟨gm 577 (by decide +kernel) rfl, gm 578 (by decide +kernel) rfl, gm 579 (by decide +kernel) rfl, gm 38 (by decide +kernel) rfl⟩
theorem kw_X6_182 : kwS RX6 182 yX6_needHour cX6_needHour 1 none := ⟨gm 581 (by decide +kernel) rfl, gm 582 (by decide +kernel) rfl, gm 583 (by decide +kernel) rfl, gm 38 (by decide +kernel) rfl⟩
theorem kw_X6_185 : kwS RX6 185 yX6_skyTurn cX6_skyTurn 2 (some .int) := ⟨gm 585 (by decide +kernel) rfl, gm 586 (by decide +kernel) rfl, gm 587 (by decide +kernel) rfl, gm 38 (by decide +kernel) rfl⟩
theorem kw_X6_188 : kwV RX6 188 yX2_heightAt cX2_heightAt 7 (some .int) := ⟨gm 232 (by decide +kernel) rfl, gm 233 (by decide +kernel) rfl, gm 234 (by decide +kernel) rfl, gm 235 (by decide +kernel) rfl, gm 39 (by decide +kernel) rfl⟩
theorem kw_X6_191 : kwV RX6 191 yX6_figureIsUp cX6_figureIsUp 4 (some .boolean) := ⟨gm 595 (by decide +kernel) rfl, gm 597 (by decide +kernel) rfl, gm 14 (by decide +kernel) rfl, gm 598 (by decide +kernel) rfl, gm 38 (by decide +kernel) rfl⟩
theorem kw_X6_195 : kwV RX6 195 yX6_hoursOfStar cX6_hoursOfStar 6 (some .int) := ⟨gm 614 (by decide +kernel) rfl, gm 616 (by decide +kernel) rfl, gm 15 (by decide +kernel) rfl, gm 617 (by decide +kernel) rfl, gm 38 (by decide +kernel) rfl⟩
theorem kw_X6_198 : kwV RX6 198 yX6_lowestHeight cX6_lowestHeight 8 (some .int) := ⟨gm 225 (by decide +kernel) rfl, gm 227 (by decide +kernel) rfl, gm 2 (by decide +kernel) rfl, gm 228 (by decide +kernel) rfl, gm 38 (by decide +kernel) rfl⟩
theorem kw_X6_210 : kwV RX6 210 yX4_append cX4_append 6 (some .int) := ⟨gm 642 (by decide +kernel) rfl, gm 643 (by decide +kernel) rfl, gm 644 (by decide +kernel) rfl, gm 645 (by decide +kernel) rfl, gm 43 (by decide +kernel) rfl⟩
theorem kw_X6_215 : kwV RX6 215 yX6_showIsWrong cX6_showIsWrong 3 (some .boolean) := ⟨gm 221 (by decide +kernel) rfl, gm 223 (by decide +kernel) rfl, gm 1 (by decide +kernel) rfl, gm 224 (by decide +kernel) rfl, gm 38 (by decide +kernel) rfl⟩
theorem kw_X6_250 : kwV RX6 250 yX2_meet cX2_meet 5 (some .boolean) := ⟨gm 502 (by decide +kernel) rfl, gm 503 (by decide +kernel) rfl, gm 504 (by decide +kernel) rfl, gm 505 (by decide +kernel) rfl, gm 39 (by decide +kernel) rfl⟩
theorem kw_X6_254 : kwS RX6 254 yJ9_min_7cf53 cJ9_min_7cf53 2 (some .int) := ⟨gm 250 (by decide +kernel) rfl, gm 251 (by decide +kernel) rfl, gm 252 (by decide +kernel) rfl, gm 52 (by decide +kernel) rfl⟩
theorem kw_X0_9 : kwS RX0 9 yJ9_floorMod_7cf53 cJ9_floorMod_7cf53 3 (some .int) := ⟨gm 239 (by decide +kernel) rfl, gm 240 (by decide +kernel) rfl, gm 241 (by decide +kernel) rfl, gm 52 (by decide +kernel) rfl⟩
theorem kw_X0_18 : kwS RX0 18 yX0_sine cX0_sine 6 (some .int) := ⟨gm 246 (by decide +kernel) rfl, gm 237 (by decide +kernel) rfl, gm 238 (by decide +kernel) rfl, gm 53 (by decide +kernel) rfl⟩
theorem kw_X1_21 : kwS RX1 21 yJ7_fill_53178 cJ7_fill_53178 4 none := ⟨gm 112 (by decide +kernel) rfl, gm 113 (by decide +kernel) rfl, gm 114 (by decide +kernel) rfl, gm 42 (by decide +kernel) rfl⟩
theorem kw_X1_27 : kwV RX1 27 yX1_count cX1_count 4 none := ⟨gm 540 (by decide +kernel) rfl, gm 542 (by decide +kernel) rfl, gm 11 (by decide +kernel) rfl, gm 543 (by decide +kernel) rfl, gm 41 (by decide +kernel) rfl⟩
theorem kw_X1_31 : kwV RX1 31 yX1_giveNames cX1_giveNames 4 none := ⟨gm 544 (by decide +kernel) rfl, gm 546 (by decide +kernel) rfl, gm 12 (by decide +kernel) rfl, gm 547 (by decide +kernel) rfl, gm 41 (by decide +kernel) rfl⟩
theorem kw_X1_34 : kwV RX1 34 yX1_giveName cX1_giveName 6 (some .int) := ⟨gm 548 (by decide +kernel) rfl, gm 550 (by decide +kernel) rfl, gm 13 (by decide +kernel) rfl, gm 551 (by decide +kernel) rfl, gm 41 (by decide +kernel) rfl⟩
theorem kw_X2_22 : kwV RX2 22 yX2_move cX2_move 4 none := ⟨gm 354 (by decide +kernel) rfl, gm 355 (by decide +kernel) rfl, gm 356 (by decide +kernel) rfl, gm 357 (by decide +kernel) rfl, gm 39 (by decide +kernel) rfl⟩
theorem kw_X2_26 : kwS RX2 26 yX0_sine cX0_sine 6 (some .int) := ⟨gm 236 (by decide +kernel) rfl, gm 237 (by decide +kernel) rfl, gm 238 (by decide +kernel) rfl, gm 53 (by decide +kernel) rfl⟩
theorem kw_X2_32 : kwS RX2 32 yX0_cosine cX0_cosine 1 (some .int) := ⟨gm 243 (by decide +kernel) rfl, gm 244 (by decide +kernel) rfl, gm 245 (by decide +kernel) rfl, gm 53 (by decide +kernel) rfl⟩
theorem kw_X2_35 : kwS RX2 35 yJ9_floorDiv_7cf53 cJ9_floorDiv_7cf53 3 (some .int) := ⟨gm 247 (by decide +kernel) rfl, gm 248 (by decide +kernel) rfl, gm 249 (by decide +kernel) rfl, gm 52 (by decide +kernel) rfl⟩
theorem kw_X2_41 : kwS RX2 41 yX2_spansOverlap cX2_spansOverlap 4 (some .boolean) := ⟨gm 506 (by decide +kernel) rfl, gm 507 (by decide +kernel) rfl, gm 508 (by decide +kernel) rfl, gm 39 (by decide +kernel) rfl⟩
theorem kw_X2_45 : kwV RX2 45 yX2_straddles cX2_straddles 5 (some .boolean) := ⟨gm 513 (by decide +kernel) rfl, gm 515 (by decide +kernel) rfl, gm 9 (by decide +kernel) rfl, gm 516 (by decide +kernel) rfl, gm 39 (by decide +kernel) rfl⟩
theorem kw_X2_48 : kwS RX2 48 yJ9_max_7cf53 cJ9_max_7cf53 2 (some .int) := ⟨gm 509 (by decide +kernel) rfl, gm 510 (by decide +kernel) rfl, gm 511 (by decide +kernel) rfl, gm 52 (by decide +kernel) rfl⟩
theorem kw_X2_51 : kwS RX2 51 yJ9_min_7cf53 cJ9_min_7cf53 2 (some .int) := ⟨gm 512 (by decide +kernel) rfl, gm 251 (by decide +kernel) rfl, gm 252 (by decide +kernel) rfl, gm 52 (by decide +kernel) rfl⟩
theorem kw_X2_54 : kwV RX2 54 yX2_sideOf cX2_sideOf 4 (some .int) := ⟨gm 517 (by decide +kernel) rfl, gm 519 (by decide +kernel) rfl, gm 10 (by decide +kernel) rfl, gm 520 (by decide +kernel) rfl, gm 39 (by decide +kernel) rfl⟩
theorem kw_X2_58 : kwS RX2 58 yJ6_compare_7cf53 cJ6_compare_7cf53 2 (some .int) := ⟨gm 521 (by decide +kernel) rfl, gm 522 (by decide +kernel) rfl, gm 523 (by decide +kernel) rfl, gm 54 (by decide +kernel) rfl⟩
theorem kw_X3_34 : kwS RX3 34 yJ9_min_7cf53 cJ9_min_7cf53 2 (some .int) := ⟨gm 390 (by decide +kernel) rfl, gm 251 (by decide +kernel) rfl, gm 252 (by decide +kernel) rfl, gm 52 (by decide +kernel) rfl⟩
theorem kw_X5_25 : kwS RX5 25 yX5_place cX5_place 2 (some .int) := ⟨gm 422 (by decide +kernel) rfl, gm 230 (by decide +kernel) rfl, gm 231 (by decide +kernel) rfl, gm 40 (by decide +kernel) rfl⟩
theorem kw_X5_29 : kwV RX5 29 yX5_hasStar cX5_hasStar 5 (some .boolean) := ⟨gm 432 (by decide +kernel) rfl, gm 434 (by decide +kernel) rfl, gm 6 (by decide +kernel) rfl, gm 435 (by decide +kernel) rfl, gm 40 (by decide +kernel) rfl⟩
theorem kw_X5_33 : kwV RX5 33 yX5_ownerOf cX5_ownerOf 3 (some .int) := ⟨gm 428 (by decide +kernel) rfl, gm 429 (by decide +kernel) rfl, gm 430 (by decide +kernel) rfl, gm 431 (by decide +kernel) rfl, gm 40 (by decide +kernel) rfl⟩
theorem kw_L_7 : kwV RL 7 yX6_addStar cX6_addStar 3 (some .int) := ⟨gm 258 (by decide +kernel) rfl, gm 259 (by decide +kernel) rfl, gm 260 (by decide +kernel) rfl, gm 261 (by decide +kernel) rfl, gm 38 (by decide +kernel) rfl⟩
theorem kw_L_17 : kwV RL 17 yX6_correct cX6_correct 4 (some .int) := ⟨gm 362 (by decide +kernel) rfl, gm 363 (by decide +kernel) rfl, gm 364 (by decide +kernel) rfl, gm 365 (by decide +kernel) rfl, gm 38 (by decide +kernel) rfl⟩
theorem kw_L_23 : kwV RL 23 yX6_addFigure cX6_addFigure 1 (some .int) := ⟨gm 395 (by decide +kernel) rfl, gm 396 (by decide +kernel) rfl, gm 397 (by decide +kernel) rfl, gm 398 (by decide +kernel) rfl, gm 38 (by decide +kernel) rfl⟩
theorem kw_L_27 : kwV RL 27 yX6_draw cX6_draw 5 (some .int) := ⟨gm 407 (by decide +kernel) rfl, gm 408 (by decide +kernel) rfl, gm 409 (by decide +kernel) rfl, gm 410 (by decide +kernel) rfl, gm 38 (by decide +kernel) rfl⟩
theorem kw_L_30 : kwV RL 30 yX6_erase cX6_erase 4 (some .int) := ⟨gm 444 (by decide +kernel) rfl, gm 445 (by decide +kernel) rfl, gm 446 (by decide +kernel) rfl, gm 447 (by decide +kernel) rfl, gm 38 (by decide +kernel) rfl⟩
theorem kw_L_33 : kwV RL 33 yX6_undo cX6_undo 1 (some .int) := ⟨gm 456 (by decide +kernel) rfl, gm 457 (by decide +kernel) rfl, gm 458 (by decide +kernel) rfl, gm 459 (by decide +kernel) rfl, gm 38 (by decide +kernel) rfl⟩
theorem kw_L_36 : kwV RL 36 yX6_lines cX6_lines 2 (some .int) := ⟨gm 472 (by decide +kernel) rfl, gm 473 (by decide +kernel) rfl, gm 474 (by decide +kernel) rfl, gm 475 (by decide +kernel) rfl, gm 38 (by decide +kernel) rfl⟩
theorem kw_L_40 : kwV RL 40 yX6_placeOf cX6_placeOf 2 (some .int) := ⟨gm 479 (by decide +kernel) rfl, gm 480 (by decide +kernel) rfl, gm 481 (by decide +kernel) rfl, gm 482 (by decide +kernel) rfl, gm 38 (by decide +kernel) rfl⟩
theorem kw_L_43 : kwV RL 43 yX6_figureOf cX6_figureOf 2 (some .int) := ⟨gm 486 (by decide +kernel) rfl, gm 487 (by decide +kernel) rfl, gm 488 (by decide +kernel) rfl, gm 489 (by decide +kernel) rfl, gm 38 (by decide +kernel) rfl⟩
theorem kw_L_46 : kwV RL 46 yX6_crossings cX6_crossings 7 (some .int) := ⟨gm 494 (by decide +kernel) rfl, gm 495 (by decide +kernel) rfl, gm 496 (by decide +kernel) rfl, gm 497 (by decide +kernel) rfl, gm 38 (by decide +kernel) rfl⟩
theorem kw_L_49 : kwV RL 49 yX6_vote cX6_vote 4 (some .int) := ⟨gm 527 (by decide +kernel) rfl, gm 528 (by decide +kernel) rfl, gm 529 (by decide +kernel) rfl, gm 530 (by decide +kernel) rfl, gm 38 (by decide +kernel) rfl⟩
theorem kw_L_52 : kwV RL 52 yX6_votes cX6_votes 3 (some .int) := ⟨gm 555 (by decide +kernel) rfl, gm 556 (by decide +kernel) rfl, gm 557 (by decide +kernel) rfl, gm 558 (by decide +kernel) rfl, gm 38 (by decide +kernel) rfl⟩
theorem kw_L_55 : kwV RL 55 yX6_nameOf cX6_nameOf 2 (some .int) := ⟨gm 562 (by decide +kernel) rfl, gm 563 (by decide +kernel) rfl, gm 564 (by decide +kernel) rfl, gm 565 (by decide +kernel) rfl, gm 38 (by decide +kernel) rfl⟩
theorem kw_L_58 : kwV RL 58 yX6_height cX6_height 5 (some .int) := ⟨gm 569 (by decide +kernel) rfl, gm 570 (by decide +kernel) rfl, gm 571 (by decide +kernel) rfl, gm 572 (by decide +kernel) rfl, gm 38 (by decide +kernel) rfl⟩
theorem kw_L_62 : kwV RL 62 yX6_isUp cX6_isUp 5 (some .boolean) := ⟨gm 591 (by decide +kernel) rfl, gm 592 (by decide +kernel) rfl, gm 593 (by decide +kernel) rfl, gm 594 (by decide +kernel) rfl, gm 38 (by decide +kernel) rfl⟩
theorem kw_L_66 : kwV RL 66 yX6_hours cX6_hours 6 (some .int) := ⟨gm 602 (by decide +kernel) rfl, gm 603 (by decide +kernel) rfl, gm 604 (by decide +kernel) rfl, gm 605 (by decide +kernel) rfl, gm 38 (by decide +kernel) rfl⟩
theorem kw_L_69 : kwV RL 69 yX6_hoursByStars cX6_hoursByStars 8 (some .int) := ⟨gm 609 (by decide +kernel) rfl, gm 610 (by decide +kernel) rfl, gm 611 (by decide +kernel) rfl, gm 612 (by decide +kernel) rfl, gm 38 (by decide +kernel) rfl⟩
theorem kw_L_72 : kwV RL 72 yX6_bestHour cX6_bestHour 8 (some .int) := ⟨gm 621 (by decide +kernel) rfl, gm 622 (by decide +kernel) rfl, gm 623 (by decide +kernel) rfl, gm 624 (by decide +kernel) rfl, gm 38 (by decide +kernel) rfl⟩
theorem kw_L_75 : kwV RL 75 yX6_season cX6_season 6 (some .int) := ⟨gm 628 (by decide +kernel) rfl, gm 629 (by decide +kernel) rfl, gm 630 (by decide +kernel) rfl, gm 631 (by decide +kernel) rfl, gm 38 (by decide +kernel) rfl⟩
theorem kw_L_78 : kwV RL 78 yX6_plan cX6_plan 7 (some .int) := ⟨gm 635 (by decide +kernel) rfl, gm 636 (by decide +kernel) rfl, gm 637 (by decide +kernel) rfl, gm 638 (by decide +kernel) rfl, gm 38 (by decide +kernel) rfl⟩
theorem kw_L_81 : kwV RL 81 yX6_isWrong cX6_isWrong 2 (some .boolean) := ⟨gm 649 (by decide +kernel) rfl, gm 650 (by decide +kernel) rfl, gm 651 (by decide +kernel) rfl, gm 652 (by decide +kernel) rfl, gm 38 (by decide +kernel) rfl⟩
theorem kw_L_94 : kwV RL 94 yX7_addStar cX7_addStar 3 (some .int) := ⟨gm 707 (by decide +kernel) rfl, gm 708 (by decide +kernel) rfl, gm 709 (by decide +kernel) rfl, gm 710 (by decide +kernel) rfl, gm 45 (by decide +kernel) rfl⟩
theorem kw_L_95 : kwV RL 95 yX7_thrown cX7_thrown 1 (some .int) := ⟨gm 703 (by decide +kernel) rfl, gm 704 (by decide +kernel) rfl, gm 705 (by decide +kernel) rfl, gm 706 (by decide +kernel) rfl, gm 45 (by decide +kernel) rfl⟩
theorem kw_L_101 : kwV RL 101 yX7_correct cX7_correct 4 (some .int) := ⟨gm 721 (by decide +kernel) rfl, gm 722 (by decide +kernel) rfl, gm 723 (by decide +kernel) rfl, gm 724 (by decide +kernel) rfl, gm 45 (by decide +kernel) rfl⟩
theorem kw_L_105 : kwV RL 105 yX7_addFigure cX7_addFigure 1 (some .int) := ⟨gm 775 (by decide +kernel) rfl, gm 776 (by decide +kernel) rfl, gm 777 (by decide +kernel) rfl, gm 778 (by decide +kernel) rfl, gm 45 (by decide +kernel) rfl⟩
theorem kw_L_108 : kwV RL 108 yX7_draw cX7_draw 6 (some .int) := ⟨gm 779 (by decide +kernel) rfl, gm 780 (by decide +kernel) rfl, gm 781 (by decide +kernel) rfl, gm 782 (by decide +kernel) rfl, gm 45 (by decide +kernel) rfl⟩
theorem kw_L_111 : kwV RL 111 yX7_erase cX7_erase 4 (some .int) := ⟨gm 807 (by decide +kernel) rfl, gm 808 (by decide +kernel) rfl, gm 809 (by decide +kernel) rfl, gm 810 (by decide +kernel) rfl, gm 45 (by decide +kernel) rfl⟩
theorem kw_L_114 : kwV RL 114 yX7_undo cX7_undo 3 (some .int) := ⟨gm 815 (by decide +kernel) rfl, gm 816 (by decide +kernel) rfl, gm 817 (by decide +kernel) rfl, gm 818 (by decide +kernel) rfl, gm 45 (by decide +kernel) rfl⟩
theorem kw_L_115 : kwV RL 115 yX6_stars cX6_stars 1 (some .int) := ⟨gm 205 (by decide +kernel) rfl, gm 206 (by decide +kernel) rfl, gm 207 (by decide +kernel) rfl, gm 208 (by decide +kernel) rfl, gm 38 (by decide +kernel) rfl⟩
theorem kw_L_118 : kwV RL 118 yX7_stars cX7_stars 1 (some .int) := ⟨gm 819 (by decide +kernel) rfl, gm 820 (by decide +kernel) rfl, gm 821 (by decide +kernel) rfl, gm 822 (by decide +kernel) rfl, gm 45 (by decide +kernel) rfl⟩
theorem kw_L_119 : kwV RL 119 yX6_figures cX6_figures 1 (some .int) := ⟨gm 209 (by decide +kernel) rfl, gm 210 (by decide +kernel) rfl, gm 211 (by decide +kernel) rfl, gm 212 (by decide +kernel) rfl, gm 38 (by decide +kernel) rfl⟩
theorem kw_L_122 : kwV RL 122 yX7_figures cX7_figures 1 (some .int) := ⟨gm 823 (by decide +kernel) rfl, gm 824 (by decide +kernel) rfl, gm 825 (by decide +kernel) rfl, gm 826 (by decide +kernel) rfl, gm 45 (by decide +kernel) rfl⟩
theorem kw_L_126 : kwV RL 126 yX7_lines cX7_lines 2 (some .int) := ⟨gm 827 (by decide +kernel) rfl, gm 828 (by decide +kernel) rfl, gm 829 (by decide +kernel) rfl, gm 830 (by decide +kernel) rfl, gm 45 (by decide +kernel) rfl⟩
theorem kw_L_129 : kwV RL 129 yX7_placeOf cX7_placeOf 2 (some .int) := ⟨gm 831 (by decide +kernel) rfl, gm 832 (by decide +kernel) rfl, gm 833 (by decide +kernel) rfl, gm 834 (by decide +kernel) rfl, gm 45 (by decide +kernel) rfl⟩
theorem kw_L_132 : kwV RL 132 yX7_figureOf cX7_figureOf 2 (some .int) := ⟨gm 835 (by decide +kernel) rfl, gm 836 (by decide +kernel) rfl, gm 837 (by decide +kernel) rfl, gm 838 (by decide +kernel) rfl, gm 45 (by decide +kernel) rfl⟩
theorem kw_L_135 : kwV RL 135 yX7_crossings cX7_crossings 6 (some .int) := ⟨gm 839 (by decide +kernel) rfl, gm 840 (by decide +kernel) rfl, gm 841 (by decide +kernel) rfl, gm 842 (by decide +kernel) rfl, gm 45 (by decide +kernel) rfl⟩
theorem kw_L_138 : kwV RL 138 yX7_vote cX7_vote 6 (some .int) := ⟨gm 854 (by decide +kernel) rfl, gm 855 (by decide +kernel) rfl, gm 856 (by decide +kernel) rfl, gm 857 (by decide +kernel) rfl, gm 45 (by decide +kernel) rfl⟩
theorem kw_L_141 : kwV RL 141 yX7_votes cX7_votes 3 (some .int) := ⟨gm 858 (by decide +kernel) rfl, gm 859 (by decide +kernel) rfl, gm 860 (by decide +kernel) rfl, gm 861 (by decide +kernel) rfl, gm 45 (by decide +kernel) rfl⟩
theorem kw_L_144 : kwV RL 144 yX7_nameOf cX7_nameOf 2 (some .int) := ⟨gm 862 (by decide +kernel) rfl, gm 863 (by decide +kernel) rfl, gm 864 (by decide +kernel) rfl, gm 865 (by decide +kernel) rfl, gm 45 (by decide +kernel) rfl⟩
theorem kw_L_148 : kwV RL 148 yX7_height cX7_height 5 (some .int) := ⟨gm 866 (by decide +kernel) rfl, gm 867 (by decide +kernel) rfl, gm 868 (by decide +kernel) rfl, gm 869 (by decide +kernel) rfl, gm 45 (by decide +kernel) rfl⟩
theorem kw_L_151 : kwV RL 151 yX7_isUp cX7_isUp 5 (some .boolean) := ⟨gm 873 (by decide +kernel) rfl, gm 874 (by decide +kernel) rfl, gm 875 (by decide +kernel) rfl, gm 876 (by decide +kernel) rfl, gm 45 (by decide +kernel) rfl⟩
theorem kw_L_154 : kwV RL 154 yX7_hours cX7_hours 4 (some .int) := ⟨gm 877 (by decide +kernel) rfl, gm 878 (by decide +kernel) rfl, gm 879 (by decide +kernel) rfl, gm 880 (by decide +kernel) rfl, gm 45 (by decide +kernel) rfl⟩
theorem kw_L_157 : kwV RL 157 yX7_hoursByStars cX7_hoursByStars 4 (some .int) := ⟨gm 885 (by decide +kernel) rfl, gm 886 (by decide +kernel) rfl, gm 887 (by decide +kernel) rfl, gm 888 (by decide +kernel) rfl, gm 45 (by decide +kernel) rfl⟩
theorem kw_L_160 : kwV RL 160 yX7_bestHour cX7_bestHour 8 (some .int) := ⟨gm 889 (by decide +kernel) rfl, gm 890 (by decide +kernel) rfl, gm 891 (by decide +kernel) rfl, gm 892 (by decide +kernel) rfl, gm 45 (by decide +kernel) rfl⟩
theorem kw_L_163 : kwV RL 163 yX7_season cX7_season 6 (some .int) := ⟨gm 893 (by decide +kernel) rfl, gm 894 (by decide +kernel) rfl, gm 895 (by decide +kernel) rfl, gm 896 (by decide +kernel) rfl, gm 45 (by decide +kernel) rfl⟩
theorem kw_L_166 : kwV RL 166 yX7_plan cX7_plan 8 (some .int) := ⟨gm 897 (by decide +kernel) rfl, gm 898 (by decide +kernel) rfl, gm 899 (by decide +kernel) rfl, gm 900 (by decide +kernel) rfl, gm 45 (by decide +kernel) rfl⟩
theorem kw_L_169 : kwV RL 169 yX7_isWrong cX7_isWrong 2 (some .boolean) := ⟨gm 901 (by decide +kernel) rfl, gm 902 (by decide +kernel) rfl, gm 903 (by decide +kernel) rfl, gm 904 (by decide +kernel) rfl, gm 45 (by decide +kernel) rfl⟩
theorem kw_L_170 : kwV RL 170 yX6_wrong cX6_wrong 1 (some .int) := ⟨gm 213 (by decide +kernel) rfl, gm 214 (by decide +kernel) rfl, gm 215 (by decide +kernel) rfl, gm 216 (by decide +kernel) rfl, gm 38 (by decide +kernel) rfl⟩
theorem kw_L_173 : kwV RL 173 yX7_wrong cX7_wrong 1 (some .int) := ⟨gm 905 (by decide +kernel) rfl, gm 906 (by decide +kernel) rfl, gm 907 (by decide +kernel) rfl, gm 908 (by decide +kernel) rfl, gm 45 (by decide +kernel) rfl⟩
theorem kw_X7_44 : kwS RX7 44 yX7_isIn cX7_isIn 3 (some .boolean) := ⟨gm 714 (by decide +kernel) rfl, gm 715 (by decide +kernel) rfl, gm 716 (by decide +kernel) rfl, gm 45 (by decide +kernel) rfl⟩
theorem kw_X7_51 : kwS RX7 51 yX7_isPlace cX7_isPlace 2 (some .boolean) := ⟨gm 711 (by decide +kernel) rfl, gm 712 (by decide +kernel) rfl, gm 713 (by decide +kernel) rfl, gm 45 (by decide +kernel) rfl⟩
theorem kw_X7_55 : kwV RX7 55 yX7_isFine cX7_isFine 2 (some .boolean) := ⟨gm 717 (by decide +kernel) rfl, gm 719 (by decide +kernel) rfl, gm 16 (by decide +kernel) rfl, gm 720 (by decide +kernel) rfl, gm 45 (by decide +kernel) rfl⟩
theorem kw_X7_62 : kwV RX7 62 yX7_isStar cX7_isStar 2 (some .boolean) := ⟨gm 725 (by decide +kernel) rfl, gm 727 (by decide +kernel) rfl, gm 17 (by decide +kernel) rfl, gm 728 (by decide +kernel) rfl, gm 45 (by decide +kernel) rfl⟩
theorem kw_X7_65 : kwV RX7 65 yX7_notes cX7_notes 7 none := ⟨gm 729 (by decide +kernel) rfl, gm 731 (by decide +kernel) rfl, gm 18 (by decide +kernel) rfl, gm 732 (by decide +kernel) rfl, gm 45 (by decide +kernel) rfl⟩
theorem kw_X7_69 : kwV RX7 69 yX7_wrongNow cX7_wrongNow 3 (some .int) := ⟨gm 733 (by decide +kernel) rfl, gm 735 (by decide +kernel) rfl, gm 19 (by decide +kernel) rfl, gm 736 (by decide +kernel) rfl, gm 45 (by decide +kernel) rfl⟩
theorem kw_X7_73 : kwV RX7 73 yX7_isOf cX7_isOf 5 (some .boolean) := ⟨gm 799 (by decide +kernel) rfl, gm 801 (by decide +kernel) rfl, gm 31 (by decide +kernel) rfl, gm 802 (by decide +kernel) rfl, gm 45 (by decide +kernel) rfl⟩
theorem kw_X7_76 : kwV RX7 76 yX7_figureNow cX7_figureNow 4 (some .int) := ⟨gm 795 (by decide +kernel) rfl, gm 797 (by decide +kernel) rfl, gm 30 (by decide +kernel) rfl, gm 798 (by decide +kernel) rfl, gm 45 (by decide +kernel) rfl⟩
theorem kw_X7_80 : kwV RX7 80 yX7_isFigure cX7_isFigure 2 (some .boolean) := ⟨gm 783 (by decide +kernel) rfl, gm 785 (by decide +kernel) rfl, gm 27 (by decide +kernel) rfl, gm 786 (by decide +kernel) rfl, gm 45 (by decide +kernel) rfl⟩
theorem kw_X7_83 : kwV RX7 83 yX7_hasLine cX7_hasLine 6 (some .boolean) := ⟨gm 787 (by decide +kernel) rfl, gm 789 (by decide +kernel) rfl, gm 28 (by decide +kernel) rfl, gm 790 (by decide +kernel) rfl, gm 45 (by decide +kernel) rfl⟩
theorem kw_X7_86 : kwV RX7 86 yX7_isFree cX7_isFree 3 (some .boolean) := ⟨gm 791 (by decide +kernel) rfl, gm 793 (by decide +kernel) rfl, gm 29 (by decide +kernel) rfl, gm 794 (by decide +kernel) rfl, gm 45 (by decide +kernel) rfl⟩
theorem kw_X7_89 : kwV RX7 89 yX7_puts cX7_puts 6 none := ⟨gm 803 (by decide +kernel) rfl, gm 805 (by decide +kernel) rfl, gm 32 (by decide +kernel) rfl, gm 806 (by decide +kernel) rfl, gm 45 (by decide +kernel) rfl⟩
theorem kw_X7_93 : kwV RX7 93 yX7_takes cX7_takes 4 none := ⟨gm 811 (by decide +kernel) rfl, gm 813 (by decide +kernel) rfl, gm 33 (by decide +kernel) rfl, gm 814 (by decide +kernel) rfl, gm 45 (by decide +kernel) rfl⟩
theorem kw_X7_97 : kwS RX7 97 yX7_meet cX7_meet 6 (some .boolean) := ⟨gm 847 (by decide +kernel) rfl, gm 848 (by decide +kernel) rfl, gm 849 (by decide +kernel) rfl, gm 45 (by decide +kernel) rfl⟩
theorem kw_X7_101 : kwV RX7 101 yX7_side cX7_side 5 (some .int) := ⟨gm 850 (by decide +kernel) rfl, gm 852 (by decide +kernel) rfl, gm 35 (by decide +kernel) rfl, gm 853 (by decide +kernel) rfl, gm 45 (by decide +kernel) rfl⟩
theorem kw_X7_105 : kwV RX7 105 yX7_cross cX7_cross 8 (some .boolean) := ⟨gm 843 (by decide +kernel) rfl, gm 845 (by decide +kernel) rfl, gm 34 (by decide +kernel) rfl, gm 846 (by decide +kernel) rfl, gm 45 (by decide +kernel) rfl⟩
theorem kw_X7_108 : kwV RX7 108 yX7_votesNow cX7_votesNow 5 (some .int) := ⟨gm 771 (by decide +kernel) rfl, gm 773 (by decide +kernel) rfl, gm 26 (by decide +kernel) rfl, gm 774 (by decide +kernel) rfl, gm 45 (by decide +kernel) rfl⟩
theorem kw_X7_112 : kwV RX7 112 yX7_gives cX7_gives 5 none := ⟨gm 767 (by decide +kernel) rfl, gm 769 (by decide +kernel) rfl, gm 25 (by decide +kernel) rfl, gm 770 (by decide +kernel) rfl, gm 45 (by decide +kernel) rfl⟩
theorem kw_X7_115 : kwV RX7 115 yX7_nameNow cX7_nameNow 2 (some .int) := ⟨gm 763 (by decide +kernel) rfl, gm 765 (by decide +kernel) rfl, gm 24 (by decide +kernel) rfl, gm 766 (by decide +kernel) rfl, gm 45 (by decide +kernel) rfl⟩
theorem kw_X7_119 : kwS RX7 119 yX7_sine cX7_sine 4 (some .int) := ⟨gm 756 (by decide +kernel) rfl, gm 757 (by decide +kernel) rfl, gm 758 (by decide +kernel) rfl, gm 45 (by decide +kernel) rfl⟩
theorem kw_X7_122 : kwS RX7 122 yX7_cosine cX7_cosine 1 (some .int) := ⟨gm 753 (by decide +kernel) rfl, gm 754 (by decide +kernel) rfl, gm 755 (by decide +kernel) rfl, gm 45 (by decide +kernel) rfl⟩
theorem kw_X7_125 : kwS RX7 125 yX7_quotient cX7_quotient 2 (some .int) := ⟨gm 760 (by decide +kernel) rfl, gm 761 (by decide +kernel) rfl, gm 762 (by decide +kernel) rfl, gm 45 (by decide +kernel) rfl⟩
theorem kw_X7_128 : kwS RX7 128 yX7_isTime cX7_isTime 3 (some .boolean) := ⟨gm 870 (by decide +kernel) rfl, gm 871 (by decide +kernel) rfl, gm 872 (by decide +kernel) rfl, gm 45 (by decide +kernel) rfl⟩
theorem kw_X7_131 : kwV RX7 131 yX7_heightNow cX7_heightNow 7 (some .int) := ⟨gm 749 (by decide +kernel) rfl, gm 751 (by decide +kernel) rfl, gm 23 (by decide +kernel) rfl, gm 752 (by decide +kernel) rfl, gm 45 (by decide +kernel) rfl⟩
theorem kw_X7_135 : kwV RX7 135 yX7_lowest cX7_lowest 9 (some .int) := ⟨gm 745 (by decide +kernel) rfl, gm 747 (by decide +kernel) rfl, gm 22 (by decide +kernel) rfl, gm 748 (by decide +kernel) rfl, gm 45 (by decide +kernel) rfl⟩
theorem kw_X7_138 : kwV RX7 138 yX7_isUpNow cX7_isUpNow 5 (some .boolean) := ⟨gm 741 (by decide +kernel) rfl, gm 743 (by decide +kernel) rfl, gm 21 (by decide +kernel) rfl, gm 744 (by decide +kernel) rfl, gm 45 (by decide +kernel) rfl⟩
theorem kw_X7_141 : kwV RX7 141 yX7_hoursNow cX7_hoursNow 6 (some .int) := ⟨gm 881 (by decide +kernel) rfl, gm 883 (by decide +kernel) rfl, gm 36 (by decide +kernel) rfl, gm 884 (by decide +kernel) rfl, gm 45 (by decide +kernel) rfl⟩
theorem kw_X7_147 : kwV RX7 147 yX7_isWrongNow cX7_isWrongNow 3 (some .boolean) := ⟨gm 737 (by decide +kernel) rfl, gm 739 (by decide +kernel) rfl, gm 20 (by decide +kernel) rfl, gm 740 (by decide +kernel) rfl, gm 45 (by decide +kernel) rfl⟩
theorem ky_X6_needPlace : kyn yX6_needPlace 2 := ⟨by decide +kernel, by decide +kernel, by decide +kernel⟩
theorem ky_X2_append : kyn yX2_append 2 := ⟨by decide +kernel, by decide +kernel, by decide +kernel⟩
theorem ky_X6_needStar : kyn yX6_needStar 1 := ⟨by decide +kernel, by decide +kernel, by decide +kernel⟩
theorem ky_X3_keep : kyn yX3_keep 5 := ⟨by decide +kernel, by decide +kernel, by decide +kernel⟩
theorem ky_X2_move : kyn yX2_move 3 := ⟨by decide +kernel, by decide +kernel, by decide +kernel⟩
theorem ky_X6_countWrongShows : kyn yX6_countWrongShows 0 := ⟨by decide +kernel, by decide +kernel, by decide +kernel⟩
theorem ky_X5_appendFigure : kyn yX5_appendFigure 0 := ⟨by decide +kernel, by decide +kernel, by decide +kernel⟩
theorem ky_X6_needFigure : kyn yX6_needFigure 1 := ⟨by decide +kernel, by decide +kernel, by decide +kernel⟩
theorem ky_X5_joins : kyn yX5_joins 3 := ⟨by decide +kernel, by decide +kernel, by decide +kernel⟩
theorem ky_X5_isOfAnother : kyn yX5_isOfAnother 2 := ⟨by decide +kernel, by decide +kernel, by decide +kernel⟩
theorem ky_X5_insert : kyn yX5_insert 4 := ⟨by decide +kernel, by decide +kernel, by decide +kernel⟩
theorem ky_X5_place : kyn yX5_place 2 := ⟨by decide +kernel, by decide +kernel, by decide +kernel⟩
theorem ky_X5_remove : kyn yX5_remove 2 := ⟨by decide +kernel, by decide +kernel, by decide +kernel⟩
theorem ky_X3_stepBack : kyn yX3_stepBack 0 := ⟨by decide +kernel, by decide +kernel, by decide +kernel⟩
theorem ky_X6_takeBack : kyn yX6_takeBack 1 := ⟨by decide +kernel, by decide +kernel, by decide +kernel⟩
theorem ky_X5_ownerOf : kyn yX5_ownerOf 1 := ⟨by decide +kernel, by decide +kernel, by decide +kernel⟩
theorem ky_X6_linesCross : kyn yX6_linesCross 2 := ⟨by decide +kernel, by decide +kernel, by decide +kernel⟩
theorem ky_X6_needName : kyn yX6_needName 1 := ⟨by decide +kernel, by decide +kernel, by decide +kernel⟩
theorem ky_X1_replace : kyn yX1_replace 3 := ⟨by decide +kernel, by decide +kernel, by decide +kernel⟩
theorem ky_X6_needLatitude : kyn yX6_needLatitude 1 := ⟨by decide +kernel, by decide +kernel, by decide +kernel⟩
theorem ky_X6_needDay : kyn yX6_needDay 1 := ⟨by decide +kernel, by decide +kernel, by decide +kernel⟩
theorem ky_X6_needHour : kyn yX6_needHour 1 := ⟨by decide +kernel, by decide +kernel, by decide +kernel⟩
theorem ky_X6_skyTurn : kyn yX6_skyTurn 2 := ⟨by decide +kernel, by decide +kernel, by decide +kernel⟩
theorem ky_X2_heightAt : kyn yX2_heightAt 3 := ⟨by decide +kernel, by decide +kernel, by decide +kernel⟩
theorem ky_X6_figureIsUp : kyn yX6_figureIsUp 3 := ⟨by decide +kernel, by decide +kernel, by decide +kernel⟩
theorem ky_X6_hoursOfStar : kyn yX6_hoursOfStar 3 := ⟨by decide +kernel, by decide +kernel, by decide +kernel⟩
theorem ky_X6_lowestHeight : kyn yX6_lowestHeight 3 := ⟨by decide +kernel, by decide +kernel, by decide +kernel⟩
theorem ky_X4_append : kyn yX4_append 4 := ⟨by decide +kernel, by decide +kernel, by decide +kernel⟩
theorem ky_X6_showIsWrong : kyn yX6_showIsWrong 1 := ⟨by decide +kernel, by decide +kernel, by decide +kernel⟩
theorem ky_X2_meet : kyn yX2_meet 4 := ⟨by decide +kernel, by decide +kernel, by decide +kernel⟩
theorem ky_J9_min_7cf53 : kyn yJ9_min_7cf53 2 := ⟨by decide +kernel, by decide +kernel, by decide +kernel⟩
theorem ky_J9_floorMod_7cf53 : kyn yJ9_floorMod_7cf53 2 := ⟨by decide +kernel, by decide +kernel, by decide +kernel⟩
theorem ky_X0_sine : kyn yX0_sine 1 := ⟨by decide +kernel, by decide +kernel, by decide +kernel⟩
theorem ky_J7_fill_53178 : kyn yJ7_fill_53178 2 := ⟨by decide +kernel, by decide +kernel, by decide +kernel⟩
theorem ky_X1_count : kyn yX1_count 3 := ⟨by decide +kernel, by decide +kernel, by decide +kernel⟩
theorem ky_X1_giveNames : kyn yX1_giveNames 0 := ⟨by decide +kernel, by decide +kernel, by decide +kernel⟩
theorem ky_X1_giveName : kyn yX1_giveName 3 := ⟨by decide +kernel, by decide +kernel, by decide +kernel⟩
theorem ky_X0_cosine : kyn yX0_cosine 1 := ⟨by decide +kernel, by decide +kernel, by decide +kernel⟩
theorem ky_J9_floorDiv_7cf53 : kyn yJ9_floorDiv_7cf53 2 := ⟨by decide +kernel, by decide +kernel, by decide +kernel⟩
theorem ky_X2_spansOverlap : kyn yX2_spansOverlap 4 := ⟨by decide +kernel, by decide +kernel, by decide +kernel⟩
theorem ky_X2_straddles : kyn yX2_straddles 4 := ⟨by decide +kernel, by decide +kernel, by decide +kernel⟩
theorem ky_J9_max_7cf53 : kyn yJ9_max_7cf53 2 := ⟨by decide +kernel, by decide +kernel, by decide +kernel⟩
theorem ky_X2_sideOf : kyn yX2_sideOf 3 := ⟨by decide +kernel, by decide +kernel, by decide +kernel⟩
theorem ky_J6_compare_7cf53 : kyn yJ6_compare_7cf53 2 := ⟨by decide +kernel, by decide +kernel, by decide +kernel⟩
theorem ky_X5_hasStar : kyn yX5_hasStar 2 := ⟨by decide +kernel, by decide +kernel, by decide +kernel⟩
theorem ky_X6_addStar : kyn yX6_addStar 2 := ⟨by decide +kernel, by decide +kernel, by decide +kernel⟩
theorem ky_X6_correct : kyn yX6_correct 3 := ⟨by decide +kernel, by decide +kernel, by decide +kernel⟩
theorem ky_X6_addFigure : kyn yX6_addFigure 0 := ⟨by decide +kernel, by decide +kernel, by decide +kernel⟩
theorem ky_X6_draw : kyn yX6_draw 3 := ⟨by decide +kernel, by decide +kernel, by decide +kernel⟩
theorem ky_X6_erase : kyn yX6_erase 2 := ⟨by decide +kernel, by decide +kernel, by decide +kernel⟩
theorem ky_X6_undo : kyn yX6_undo 0 := ⟨by decide +kernel, by decide +kernel, by decide +kernel⟩
theorem ky_X6_lines : kyn yX6_lines 1 := ⟨by decide +kernel, by decide +kernel, by decide +kernel⟩
theorem ky_X6_placeOf : kyn yX6_placeOf 1 := ⟨by decide +kernel, by decide +kernel, by decide +kernel⟩
theorem ky_X6_figureOf : kyn yX6_figureOf 1 := ⟨by decide +kernel, by decide +kernel, by decide +kernel⟩
theorem ky_X6_crossings : kyn yX6_crossings 2 := ⟨by decide +kernel, by decide +kernel, by decide +kernel⟩
theorem ky_X6_vote : kyn yX6_vote 3 := ⟨by decide +kernel, by decide +kernel, by decide +kernel⟩
theorem ky_X6_votes : kyn yX6_votes 2 := ⟨by decide +kernel, by decide +kernel, by decide +kernel⟩
theorem ky_X6_nameOf : kyn yX6_nameOf 1 := ⟨by decide +kernel, by decide +kernel, by decide +kernel⟩
theorem ky_X6_height : kyn yX6_height 4 := ⟨by decide +kernel, by decide +kernel, by decide +kernel⟩
theorem ky_X6_isUp : kyn yX6_isUp 4 := ⟨by decide +kernel, by decide +kernel, by decide +kernel⟩
theorem ky_X6_hours : kyn yX6_hours 3 := ⟨by decide +kernel, by decide +kernel, by decide +kernel⟩
theorem ky_X6_hoursByStars : kyn yX6_hoursByStars 3 := ⟨by decide +kernel, by decide +kernel, by decide +kernel⟩
theorem ky_X6_bestHour : kyn yX6_bestHour 3 := ⟨by decide +kernel, by decide +kernel, by decide +kernel⟩
theorem ky_X6_season : kyn yX6_season 3 := ⟨by decide +kernel, by decide +kernel, by decide +kernel⟩
theorem ky_X6_plan : kyn yX6_plan 4 := ⟨by decide +kernel, by decide +kernel, by decide +kernel⟩
theorem ky_X6_isWrong : kyn yX6_isWrong 1 := ⟨by decide +kernel, by decide +kernel, by decide +kernel⟩
theorem ky_L_addStar : kyn yL_addStar 4 := ⟨by decide +kernel, by decide +kernel, by decide +kernel⟩
theorem ky_X7_addStar : kyn yX7_addStar 2 := ⟨by decide +kernel, by decide +kernel, by decide +kernel⟩
theorem ky_X7_thrown : kyn yX7_thrown 0 := ⟨by decide +kernel, by decide +kernel, by decide +kernel⟩
theorem ky_L_correct : kyn yL_correct 5 := ⟨by decide +kernel, by decide +kernel, by decide +kernel⟩
theorem ky_X7_correct : kyn yX7_correct 3 := ⟨by decide +kernel, by decide +kernel, by decide +kernel⟩
theorem ky_L_addFigure : kyn yL_addFigure 2 := ⟨by decide +kernel, by decide +kernel, by decide +kernel⟩
theorem ky_X7_addFigure : kyn yX7_addFigure 0 := ⟨by decide +kernel, by decide +kernel, by decide +kernel⟩
theorem ky_L_draw : kyn yL_draw 5 := ⟨by decide +kernel, by decide +kernel, by decide +kernel⟩
theorem ky_X7_draw : kyn yX7_draw 3 := ⟨by decide +kernel, by decide +kernel, by decide +kernel⟩
theorem ky_L_erase : kyn yL_erase 4 := ⟨by decide +kernel, by decide +kernel, by decide +kernel⟩
theorem ky_X7_erase : kyn yX7_erase 2 := ⟨by decide +kernel, by decide +kernel, by decide +kernel⟩
theorem ky_L_undo : kyn yL_undo 2 := ⟨by decide +kernel, by decide +kernel, by decide +kernel⟩
theorem ky_X7_undo : kyn yX7_undo 0 := ⟨by decide +kernel, by decide +kernel, by decide +kernel⟩
theorem ky_X6_stars : kyn yX6_stars 0 := ⟨by decide +kernel, by decide +kernel, by decide +kernel⟩
theorem ky_X7_stars : kyn yX7_stars 0 := ⟨by decide +kernel, by decide +kernel, by decide +kernel⟩
theorem ky_X6_figures : kyn yX6_figures 0 := ⟨by decide +kernel, by decide +kernel, by decide +kernel⟩
theorem ky_X7_figures : kyn yX7_figures 0 := ⟨by decide +kernel, by decide +kernel, by decide +kernel⟩
theorem ky_L_lines : kyn yL_lines 3 := ⟨by decide +kernel, by decide +kernel, by decide +kernel⟩
theorem ky_X7_lines : kyn yX7_lines 1 := ⟨by decide +kernel, by decide +kernel, by decide +kernel⟩
theorem ky_L_placeOf : kyn yL_placeOf 3 := ⟨by decide +kernel, by decide +kernel, by decide +kernel⟩
theorem ky_X7_placeOf : kyn yX7_placeOf 1 := ⟨by decide +kernel, by decide +kernel, by decide +kernel⟩
theorem ky_L_figureOf : kyn yL_figureOf 3 := ⟨by decide +kernel, by decide +kernel, by decide +kernel⟩
theorem ky_X7_figureOf : kyn yX7_figureOf 1 := ⟨by decide +kernel, by decide +kernel, by decide +kernel⟩
theorem ky_L_crossings : kyn yL_crossings 4 := ⟨by decide +kernel, by decide +kernel, by decide +kernel⟩
theorem ky_X7_crossings : kyn yX7_crossings 2 := ⟨by decide +kernel, by decide +kernel, by decide +kernel⟩
theorem ky_L_vote : kyn yL_vote 5 := ⟨by decide +kernel, by decide +kernel, by decide +kernel⟩
theorem ky_X7_vote : kyn yX7_vote 3 := ⟨by decide +kernel, by decide +kernel, by decide +kernel⟩
theorem ky_L_votes : kyn yL_votes 4 := ⟨by decide +kernel, by decide +kernel, by decide +kernel⟩
theorem ky_X7_votes : kyn yX7_votes 2 := ⟨by decide +kernel, by decide +kernel, by decide +kernel⟩
theorem ky_L_nameOf : kyn yL_nameOf 3 := ⟨by decide +kernel, by decide +kernel, by decide +kernel⟩
theorem ky_X7_nameOf : kyn yX7_nameOf 1 := ⟨by decide +kernel, by decide +kernel, by decide +kernel⟩
theorem ky_L_height : kyn yL_height 6 := ⟨by decide +kernel, by decide +kernel, by decide +kernel⟩
theorem ky_X7_height : kyn yX7_height 4 := ⟨by decide +kernel, by decide +kernel, by decide +kernel⟩
theorem ky_L_isUp : kyn yL_isUp 6 := ⟨by decide +kernel, by decide +kernel, by decide +kernel⟩
theorem ky_X7_isUp : kyn yX7_isUp 4 := ⟨by decide +kernel, by decide +kernel, by decide +kernel⟩
theorem ky_L_hours : kyn yL_hours 5 := ⟨by decide +kernel, by decide +kernel, by decide +kernel⟩
theorem ky_X7_hours : kyn yX7_hours 3 := ⟨by decide +kernel, by decide +kernel, by decide +kernel⟩
theorem ky_L_hoursByStars : kyn yL_hoursByStars 5 := ⟨by decide +kernel, by decide +kernel, by decide +kernel⟩
theorem ky_X7_hoursByStars : kyn yX7_hoursByStars 3 := ⟨by decide +kernel, by decide +kernel, by decide +kernel⟩
theorem ky_L_bestHour : kyn yL_bestHour 5 := ⟨by decide +kernel, by decide +kernel, by decide +kernel⟩
theorem ky_X7_bestHour : kyn yX7_bestHour 3 := ⟨by decide +kernel, by decide +kernel, by decide +kernel⟩
theorem ky_L_season : kyn yL_season 5 := ⟨by decide +kernel, by decide +kernel, by decide +kernel⟩
theorem ky_X7_season : kyn yX7_season 3 := ⟨by decide +kernel, by decide +kernel, by decide +kernel⟩
theorem ky_L_plan : kyn yL_plan 6 := ⟨by decide +kernel, by decide +kernel, by decide +kernel⟩
theorem ky_X7_plan : kyn yX7_plan 4 := ⟨by decide +kernel, by decide +kernel, by decide +kernel⟩
theorem ky_L_isWrong : kyn yL_isWrong 3 := ⟨by decide +kernel, by decide +kernel, by decide +kernel⟩
theorem ky_X7_isWrong : kyn yX7_isWrong 1 := ⟨by decide +kernel, by decide +kernel, by decide +kernel⟩
theorem ky_X6_wrong : kyn yX6_wrong 0 := ⟨by decide +kernel, by decide +kernel, by decide +kernel⟩
theorem ky_X7_wrong : kyn yX7_wrong 0 := ⟨by decide +kernel, by decide +kernel, by decide +kernel⟩
theorem ky_X7_isIn : kyn yX7_isIn 3 := ⟨by decide +kernel, by decide +kernel, by decide +kernel⟩
theorem ky_X7_isPlace : kyn yX7_isPlace 2 := ⟨by decide +kernel, by decide +kernel, by decide +kernel⟩
theorem ky_X7_isFine : kyn yX7_isFine 1 := ⟨by decide +kernel, by decide +kernel, by decide +kernel⟩
theorem ky_X7_isStar : kyn yX7_isStar 1 := ⟨by decide +kernel, by decide +kernel, by decide +kernel⟩
theorem ky_X7_notes : kyn yX7_notes 5 := ⟨by decide +kernel, by decide +kernel, by decide +kernel⟩
theorem ky_X7_wrongNow : kyn yX7_wrongNow 0 := ⟨by decide +kernel, by decide +kernel, by decide +kernel⟩
theorem ky_X7_isOf : kyn yX7_isOf 2 := ⟨by decide +kernel, by decide +kernel, by decide +kernel⟩
theorem ky_X7_figureNow : kyn yX7_figureNow 1 := ⟨by decide +kernel, by decide +kernel, by decide +kernel⟩
theorem ky_X7_isFigure : kyn yX7_isFigure 1 := ⟨by decide +kernel, by decide +kernel, by decide +kernel⟩
theorem ky_X7_hasLine : kyn yX7_hasLine 3 := ⟨by decide +kernel, by decide +kernel, by decide +kernel⟩
theorem ky_X7_isFree : kyn yX7_isFree 2 := ⟨by decide +kernel, by decide +kernel, by decide +kernel⟩
theorem ky_X7_puts : kyn yX7_puts 4 := ⟨by decide +kernel, by decide +kernel, by decide +kernel⟩
theorem ky_X7_takes : kyn yX7_takes 2 := ⟨by decide +kernel, by decide +kernel, by decide +kernel⟩
theorem ky_X7_meet : kyn yX7_meet 4 := ⟨by decide +kernel, by decide +kernel, by decide +kernel⟩
theorem ky_X7_side : kyn yX7_side 3 := ⟨by decide +kernel, by decide +kernel, by decide +kernel⟩
theorem ky_X7_cross : kyn yX7_cross 2 := ⟨by decide +kernel, by decide +kernel, by decide +kernel⟩
theorem ky_X7_votesNow : kyn yX7_votesNow 2 := ⟨by decide +kernel, by decide +kernel, by decide +kernel⟩
theorem ky_X7_gives : kyn yX7_gives 0 := ⟨by decide +kernel, by decide +kernel, by decide +kernel⟩
theorem ky_X7_nameNow : kyn yX7_nameNow 1 := ⟨by decide +kernel, by decide +kernel, by decide +kernel⟩
theorem ky_X7_sine : kyn yX7_sine 1 := ⟨by decide +kernel, by decide +kernel, by decide +kernel⟩
theorem ky_X7_cosine : kyn yX7_cosine 1 := ⟨by decide +kernel, by decide +kernel, by decide +kernel⟩
theorem ky_X7_quotient : kyn yX7_quotient 2 := ⟨by decide +kernel, by decide +kernel, by decide +kernel⟩
theorem ky_X7_isTime : kyn yX7_isTime 3 := ⟨by decide +kernel, by decide +kernel, by decide +kernel⟩
theorem ky_X7_heightNow : kyn yX7_heightNow 4 := ⟨by decide +kernel, by decide +kernel, by decide +kernel⟩
theorem ky_X7_lowest : kyn yX7_lowest 4 := ⟨by decide +kernel, by decide +kernel, by decide +kernel⟩
theorem ky_X7_isUpNow : kyn yX7_isUpNow 4 := ⟨by decide +kernel, by decide +kernel, by decide +kernel⟩
theorem ky_X7_hoursNow : kyn yX7_hoursNow 3 := ⟨by decide +kernel, by decide +kernel, by decide +kernel⟩
theorem ky_X7_isWrongNow : kyn yX7_isWrongNow 1 := ⟨by decide +kernel, by decide +kernel, by decide +kernel⟩
end
section
/-! ===== more rows; the throws' words; whole-number facts ===== -/
section RX
variable {p : Program} {l : Launch} {e : Env} {R : Room} {s : State} {m : MethodId} {args : Array Value} {below : List Frame} {meth : Method} {c : Code} {H : Heap} {locs : List Loc} {cells slots : Nat} {Q : State → Prop}
variable {g : gT} {own : String} {cc : ByteArray} {nL : Nat} {S S' : gSt} {pc : Nat} {ls : Array Slot} {rest : List Value}
variable {index n maxL fr lo : Nat} {y : MethodName} {bytes : ByteArray} {ret : Option FieldType} {As : List Value} {stk : List Value} {v : Option Value} {b : Nat}
theorem bi_ldc {own : String} {index : Nat} {n : Int} (hx : p.tables.exec = Jvm.exec) (hb : c.code = cc) (hown : s.vm.findClass own = some m.cls) (hconst : (Jvm.Cond.constant own index (iI n)).before args s = true) (hdg : decode cc pc = .ok (.ldc index, 2))
    (k : W p l e R s m args below meth c H locs cells slots Q (F0 m (pc + 2) ls (.int (iI n) :: rest))) : W p l e R s m args below meth c H locs cells slots Q (F0 m pc ls rest) := lv_ldc hx hb hown hconst hdg k
theorem cvI {r : Int} (C0 : Ct p s m args c g own cc nL) (hH : Hp g S s H locs) (hM : MetG l g y bytes maxL ret fr lo (.ref b :: As) S (some (.int (iI r))) S') (hw : kwV own index y bytes maxL ret) (hy : kyn y n) (hR : fr + 1 ≤ R.frames ∧ 8 + (maxL + 11) + lo ≤ R.locals) (hcs : cells ≤ R.cells ∧ slots ≤ R.slots)
    (k : Nat) {ci N : Nat} {T : u_T} {fs : List Value} (he : (Wl g S)[k]? = some (b, .inr (ci, fs))) (hc : vwCl[ci]? = some (y.cls, T, N)) (hn : As.length = n) (hsz : ls.size = nL) (hst : stk = As.reverse ++ .ref b :: rest) (hrest : (rest.map fun v => v.category).sum ≤ 8) (hdg : decode cc pc = .ok (.invokevirtual index, 3))
    (kk : ∀ (H1 : Heap) (locs1 : List Loc), Hp g S' s H1 locs1 → W p l e R s m args below meth c H1 locs1 cells slots Q (F0 m (pc + 3) ls (.int (iI r) :: rest))) : W p l e R s m args below meth c H locs cells slots Q (F0 m pc ls stk) :=
  cvG C0 hH hM hw hy hR hcs k he hc hn hsz hst hrest hdg kk
theorem cvN (C0 : Ct p s m args c g own cc nL) (hH : Hp g S s H locs) (hM : MetG l g y bytes maxL ret fr lo (.ref b :: As) S none S') (hw : kwV own index y bytes maxL ret) (hy : kyn y n) (hR : fr + 1 ≤ R.frames ∧ 8 + (maxL + 11) + lo ≤ R.locals) (hcs : cells ≤ R.cells ∧ slots ≤ R.slots)
    (k : Nat) {ci N : Nat} {T : u_T} {fs : List Value} (he : (Wl g S)[k]? = some (b, .inr (ci, fs))) (hc : vwCl[ci]? = some (y.cls, T, N)) (hn : As.length = n) (hsz : ls.size = nL) (hst : stk = As.reverse ++ .ref b :: rest) (hrest : (rest.map fun v => v.category).sum ≤ 8) (hdg : decode cc pc = .ok (.invokevirtual index, 3))
    (kk : ∀ (H1 : Heap) (locs1 : List Loc), Hp g S' s H1 locs1 → W p l e R s m args below meth c H1 locs1 cells slots Q (F0 m (pc + 3) ls rest)) : W p l e R s m args below meth c H locs cells slots Q (F0 m pc ls stk) :=
  cvG C0 hH hM hw hy hR hcs k he hc hn hsz hst hrest hdg kk
theorem csI {r : Int} (C0 : Ct p s m args c g own cc nL) (hH : Hp g S s H locs) (hM : MetG l g y bytes maxL ret fr lo As S (some (.int (iI r))) S') (hw : kwS own index y bytes maxL ret) (hy : kyn y n) (hR : fr + 1 ≤ R.frames ∧ 8 + (maxL + 11) + lo ≤ R.locals) (hcs : cells ≤ R.cells ∧ slots ≤ R.slots)
    (hn : As.length = n) (hsz : ls.size = nL) (hst : stk = As.reverse ++ rest) (hrest : (rest.map fun v => v.category).sum ≤ 8) (hdg : decode cc pc = .ok (.invokestatic index, 3))
    (kk : ∀ (H1 : Heap) (locs1 : List Loc), Hp g S' s H1 locs1 → W p l e R s m args below meth c H1 locs1 cells slots Q (F0 m (pc + 3) ls (.int (iI r) :: rest))) : W p l e R s m args below meth c H locs cells slots Q (F0 m pc ls stk) :=
  csG C0 hH hM hw hy hR hcs hn hsz hst hrest hdg kk
theorem csN (C0 : Ct p s m args c g own cc nL) (hH : Hp g S s H locs) (hM : MetG l g y bytes maxL ret fr lo As S none S') (hw : kwS own index y bytes maxL ret) (hy : kyn y n) (hR : fr + 1 ≤ R.frames ∧ 8 + (maxL + 11) + lo ≤ R.locals) (hcs : cells ≤ R.cells ∧ slots ≤ R.slots)
    (hn : As.length = n) (hsz : ls.size = nL) (hst : stk = As.reverse ++ rest) (hrest : (rest.map fun v => v.category).sum ≤ 8) (hdg : decode cc pc = .ok (.invokestatic index, 3))
    (kk : ∀ (H1 : Heap) (locs1 : List Loc), Hp g S' s H1 locs1 → W p l e R s m args below meth c H1 locs1 cells slots Q (F0 m (pc + 3) ls rest)) : W p l e R s m args below meth c H locs cells slots Q (F0 m pc ls stk) :=
  csG C0 hH hM hw hy hR hcs hn hsz hst hrest hdg kk
theorem xor_neg {a b : Int} (ra : rg a) (rb : rg b) (h : 0 ≤ b) : (0 : Int32) ≤ iI a ^^^ iI b ↔ 0 ≤ a := by
  have e : ∀ x : Int32, (0 : Int32) ≤ x ↔ x.toBitVec.msb = false := fun x => by
    rw [Int32.le_iff_toInt_le, BitVec.msb_eq_toInt]
    show (0 : Int) ≤ x.toBitVec.toInt ↔ _
    simp
  have ea : (iI a).toBitVec.msb = decide (a < 0) := by
    rw [BitVec.msb_eq_toInt]
    show decide ((iI a).toInt < 0) = _
    rw [iI_t ra]
  have eb : (iI b).toBitVec.msb = false := by
    rw [BitVec.msb_eq_toInt]
    show decide ((iI b).toInt < 0) = _
    rw [iI_t rb]
    simp
    exact h
  rw [e, Int32.toBitVec_xor, BitVec.msb_xor, ea, eb]
  simp
theorem bx_xorge (hx : p.tables.exec = Jvm.exec) (hb : c.code = cc) {a b off : Int} {tgt : Nat} (d1 : decode cc pc = .ok (.ixor, 1)) (d2 : decode cc (pc + 1) = .ok (.ifCond .ge off, 3)) (ht : ((pc + 1 : Nat) : Int) + off = (tgt : Int)) (ra : rg a) (rb : rg b) (h0 : 0 ≤ b)
    (kt : 0 ≤ a → W p l e R s m args below meth c H locs cells slots Q (F0 m tgt ls rest)) (kf : a < 0 → W p l e R s m args below meth c H locs cells slots Q (F0 m (pc + 1 + 3) ls rest)) : W p l e R s m args below meth c H locs cells slots Q (F0 m pc ls (.int (iI b) :: .int (iI a) :: rest)) :=
  lv_ixor hx hb d1 (lv_if_ge hx hb d2 ht (fun h => kt ((xor_neg ra rb h0).mp h)) (fun h => kf (Int.not_le.mp (fun q => h ((xor_neg ra rb h0).mpr q)))))
end RX
theorem bI_b (b : Bool) : (if b = true then (1 : Int) else 0) = 0 ∨ (if b = true then (1 : Int) else 0) = 1 := by cases b <;> simp
theorem td_p {a b : Int} (h : 0 ≤ a) : a.tdiv b = a / b := Int.tdiv_eq_ediv_of_nonneg h
theorem td_n {a b : Int} (h : a ≤ 0) : a.tdiv b = -((-a) / b) := by
  have h1 : ((-a) : Int).tdiv b = (-a) / b := td_p (by omega)
  rw [Int.neg_tdiv] at h1
  omega
theorem tm_p {a b : Int} (h : 0 ≤ a) : a.tmod b = a % b := Int.tmod_eq_emod_of_nonneg h
theorem tm_n {a b : Int} (h : a ≤ 0) : a.tmod b = -((-a) % b) := by
  have h1 : ((-a) : Int).tmod b = (-a) % b := tm_p (by omega)
  rw [Int.neg_tmod] at h1
  omega
/-- the sine in thousandths, the cosine, the height -/
def sh (h : Int) : Int := 4000 * (h * (180 - h)) / (40500 - h * (180 - h))
def sn (a : Int) : Int := if a % 360 < 180 then sh (a % 360 % 180) else -sh (a % 360 % 180)
def cs (a : Int) : Int := sn (a + 90)
def hg (lat up t : Int) : Int := (sn lat * sn up + cs lat * cs up * cs t / 1000) / 1000
theorem prod_b {h : Int} (h0 : 0 ≤ h) (h1 : h < 180) : 0 ≤ h * (180 - h) ∧ h * (180 - h) ≤ 8100 := by
  have : ∀ n : Nat, n < 180 → 0 ≤ (n : Int) * (180 - (n : Int)) ∧ (n : Int) * (180 - (n : Int)) ≤ 8100 := by decide +kernel
  have h2 := this h.toNat (by omega)
  rw [Int.toNat_of_nonneg h0] at h2
  exact h2
theorem sh_b {h : Int} (h0 : 0 ≤ h) (h1 : h < 180) : 0 ≤ sh h ∧ sh h ≤ 1000 := by
  have : ∀ n : Nat, n < 180 → 0 ≤ sh (n : Int) ∧ sh (n : Int) ≤ 1000 := by decide +kernel
  have h2 := this h.toNat (by omega)
  rw [Int.toNat_of_nonneg h0] at h2
  exact h2
theorem sn_b (a : Int) : -1000 ≤ sn a ∧ sn a ≤ 1000 := by
  have := sh_b (h := a % 360 % 180) (by omega) (by omega)
  unfold sn
  split <;> omega
theorem cs_b (a : Int) : -1000 ≤ cs a ∧ cs a ≤ 1000 := sn_b _
theorem mul_b {a b A B : Int} (ha : -A ≤ a ∧ a ≤ A) (hb : -B ≤ b ∧ b ≤ B) (hA : 0 ≤ A) (hB : 0 ≤ B) : -(A * B) ≤ a * b ∧ a * b ≤ A * B := by
  have h1 : (a * b).natAbs ≤ (A * B).natAbs := by
    rw [Int.natAbs_mul, Int.natAbs_mul]
    exact Nat.mul_le_mul (by omega) (by omega)
  have h2 : 0 ≤ A * B := Int.mul_nonneg hA hB
  omega
theorem atg_ISE : ∀ w ∈ (vx_atS "SkyLoom" 56 "java/lang/IllegalStateException" ["java/lang/RuntimeException", "java/lang/Exception"]).filter goodWord, w ∈ lw_tbl := by decide +kernel
theorem atn_ISE : ∀ w ∈ (vx_atS "SkyLoom" 56 "java/lang/IllegalStateException" ["java/lang/RuntimeException", "java/lang/Exception"]).filter (fun w => !goodWord w), w ∈ lw_tbl ∧ isNest w = true := by decide +kernel
theorem atS_ISE {g : gT} {s : State} {args : Array Value} (h : GG g s) : ∀ w ∈ vx_atS "SkyLoom" 56 "java/lang/IllegalStateException" ["java/lang/RuntimeException", "java/lang/Exception"], w.before args s = true := vx_hat (B := NL) (fun w hw => h.w (List.mem_filter.mpr ⟨atg_ISE w hw, (List.mem_filter.mp hw).2⟩)) (fun w hw => List.mem_filter.mpr (atn_ISE w hw)) (fun w hw => h.n hw)
theorem gdS_ISE : ∀ w ∈ Cond.classLink "SkyLoom" 52 "java/lang/IllegalStateException" :: Cond.initialized "java/lang/IllegalStateException" :: vx_atS "SkyLoom" 56 "java/lang/IllegalStateException" ["java/lang/RuntimeException", "java/lang/Exception"], vx_ot w = true := by decide +kernel
theorem atg_IAE : ∀ w ∈ (vx_atS "SkyLoom" 101 "java/lang/IllegalArgumentException" ["java/lang/RuntimeException", "java/lang/Exception"]).filter goodWord, w ∈ lw_tbl := by decide +kernel
theorem atn_IAE : ∀ w ∈ (vx_atS "SkyLoom" 101 "java/lang/IllegalArgumentException" ["java/lang/RuntimeException", "java/lang/Exception"]).filter (fun w => !goodWord w), w ∈ lw_tbl ∧ isNest w = true := by decide +kernel
theorem atS_IAE {g : gT} {s : State} {args : Array Value} (h : GG g s) : ∀ w ∈ vx_atS "SkyLoom" 101 "java/lang/IllegalArgumentException" ["java/lang/RuntimeException", "java/lang/Exception"], w.before args s = true := vx_hat (B := NL) (fun w hw => h.w (List.mem_filter.mpr ⟨atg_IAE w hw, (List.mem_filter.mp hw).2⟩)) (fun w hw => List.mem_filter.mpr (atn_IAE w hw)) (fun w hw => h.n hw)
theorem gdS_IAE : ∀ w ∈ Cond.classLink "SkyLoom" 97 "java/lang/IllegalArgumentException" :: Cond.initialized "java/lang/IllegalArgumentException" :: vx_atS "SkyLoom" 101 "java/lang/IllegalArgumentException" ["java/lang/RuntimeException", "java/lang/Exception"], vx_ot w = true := by decide +kernel
theorem atg_IOE : ∀ w ∈ (vx_atS "SkyLoom" 127 "java/lang/IndexOutOfBoundsException" ["java/lang/RuntimeException", "java/lang/Exception"]).filter goodWord, w ∈ lw_tbl := by decide +kernel
theorem atn_IOE : ∀ w ∈ (vx_atS "SkyLoom" 127 "java/lang/IndexOutOfBoundsException" ["java/lang/RuntimeException", "java/lang/Exception"]).filter (fun w => !goodWord w), w ∈ lw_tbl ∧ isNest w = true := by decide +kernel
theorem atS_IOE {g : gT} {s : State} {args : Array Value} (h : GG g s) : ∀ w ∈ vx_atS "SkyLoom" 127 "java/lang/IndexOutOfBoundsException" ["java/lang/RuntimeException", "java/lang/Exception"], w.before args s = true := vx_hat (B := NL) (fun w hw => h.w (List.mem_filter.mpr ⟨atg_IOE w hw, (List.mem_filter.mp hw).2⟩)) (fun w hw => List.mem_filter.mpr (atn_IOE w hw)) (fun w hw => h.n hw)
theorem gdS_IOE : ∀ w ∈ Cond.classLink "SkyLoom" 123 "java/lang/IndexOutOfBoundsException" :: Cond.initialized "java/lang/IndexOutOfBoundsException" :: vx_atS "SkyLoom" 127 "java/lang/IndexOutOfBoundsException" ["java/lang/RuntimeException", "java/lang/Exception"], vx_ot w = true := by decide +kernel
end
section
/-! ===== loops as functions ===== -/
def lpF {α : Type} (f : Int → α → α) : Nat → Int → α → α
  | 0, _, a => a
  | k + 1, i, a => lpF f k (i + 1) (f i a)
theorem lpF_e {α : Type} {f : Int → α → α} {n i : Int} {a : α} (h : n ≤ i) : lpF f (n - i).toNat i a = a := by
  rw [show (n - i).toNat = 0 by omega]; rfl
theorem lpF_s {α : Type} {f : Int → α → α} {n i : Int} {a : α} (h : i < n) : lpF f (n - i).toNat i a = lpF f (n - (i + 1)).toNat (i + 1) (f i a) := by
  rw [show (n - i).toNat = (n - (i + 1)).toNat + 1 by omega]; rfl
def exF (p : Int → Bool) : Nat → Int → Bool
  | 0, _ => false
  | k + 1, i => p i || exF p k (i + 1)
theorem exF_e {p : Int → Bool} {n i : Int} (h : n ≤ i) : exF p (n - i).toNat i = false := by
  rw [show (n - i).toNat = 0 by omega]; rfl
theorem exF_s {p : Int → Bool} {n i : Int} (h : i < n) : exF p (n - i).toNat i = (p i || exF p (n - (i + 1)).toNat (i + 1)) := by
  rw [show (n - i).toNat = (n - (i + 1)).toNat + 1 by omega]; rfl
def fdF (p : Int → Bool) : Nat → Int → Int
  | 0, _ => -1
  | k + 1, i => if p i = true then i else fdF p k (i + 1)
theorem fdF_e {p : Int → Bool} {n i : Int} (h : n ≤ i) : fdF p (n - i).toNat i = -1 := by
  rw [show (n - i).toNat = 0 by omega]; rfl
theorem fdF_s {p : Int → Bool} {n i : Int} (h : i < n) : fdF p (n - i).toNat i = if p i = true then i else fdF p (n - (i + 1)).toNat (i + 1) := by
  rw [show (n - i).toNat = (n - (i + 1)).toNat + 1 by omega]; rfl
/-- places in range; lines in range -/
def okC (a u : Int → Int) : Prop := ∀ i : Int, 0 ≤ i → i < 24 → 0 ≤ a i ∧ a i < 360 ∧ -90 ≤ u i ∧ u i ≤ 90
def okN (n : Int → Int) : Prop := ∀ f : Int, 0 ≤ f → f < 8 → 0 ≤ n f ∧ n f ≤ 10
def okE (n e : Int → Int) : Prop := ∀ f k : Int, 0 ≤ f → f < 8 → 0 ≤ k → k < n f → 0 ≤ e (10 * f + k) ∧ e (10 * f + k) < 24
end
section
theorem exF_e2 {p : Int → Bool} {n i j : Int} (h : n ≤ i) : exF p (n - i).toNat j = false := by
  rw [show (n - i).toNat = 0 by omega]; rfl
theorem exF_t {p : Int → Bool} {n i j : Int} (h : i < n) (hp : p j = false) : exF p (n - i).toNat j = exF p (n - (i + 1)).toNat (j + 1) := by
  rw [show (n - i).toNat = (n - (i + 1)).toNat + 1 by omega]
  show (p j || _) = _
  rw [hp]; rfl
theorem exF_f {p : Int → Bool} {n i j : Int} (h : i < n) (hp : p j = true) : exF p (n - i).toNat j = true := by
  rw [show (n - i).toNat = (n - (i + 1)).toNat + 1 by omega]
  show (p j || _) = _
  rw [hp]; rfl
theorem fdF_t {p : Int → Bool} {n i : Int} (h : i < n) (hp : p i = false) : fdF p (n - i).toNat i = fdF p (n - (i + 1)).toNat (i + 1) := by
  rw [fdF_s h, hp]; rfl
theorem fdF_f {p : Int → Bool} {n i : Int} (h : i < n) (hp : p i = true) : fdF p (n - i).toNat i = i := by
  rw [fdF_s h, hp]; rfl
theorem fdF_b {p : Int → Bool} : ∀ (k : Nat) (i : Int), 0 ≤ i → (fdF p k i = -1 ∨ (i ≤ fdF p k i ∧ fdF p k i < i + k))
  | 0, _, _ => Or.inl rfl
  | k + 1, i, h => by
    show (if p i = true then i else fdF p k (i + 1)) = -1 ∨ (i ≤ (if p i = true then i else fdF p k (i + 1)) ∧ (if p i = true then i else fdF p k (i + 1)) < i + ((k + 1 : Nat) : Int))
    split
    · omega
    · rcases fdF_b k (i + 1) (by omega) with h1 | h1
      · exact Or.inl h1
      · omega
theorem lpF_e2 {α : Type} {f : Int → α → α} {n i j : Int} {a : α} (h : n ≤ i) : lpF f (n - i).toNat j a = a := by
  rw [show (n - i).toNat = 0 by omega]; rfl
theorem lpF_s2 {α : Type} {f : Int → α → α} {n i j : Int} {a : α} (h : i < n) : lpF f (n - i).toNat j a = lpF f (n - (i + 1)).toNat (j + 1) (f j a) := by
  rw [show (n - i).toNat = (n - (i + 1)).toNat + 1 by omega]; rfl
theorem b0 {b : Bool} (h : (if b = true then (1 : Int) else 0) = 0) : b = false := by cases b <;> simp at h ⊢
theorem b1 {b : Bool} (h : (if b = true then (1 : Int) else 0) ≠ 0) : b = true := by cases b <;> simp at h ⊢
theorem brg (b : Bool) : 0 ≤ (if b = true then (1 : Int) else 0) ∧ (if b = true then (1 : Int) else 0) ≤ 1 := by cases b <;> simp
theorem prg (p : Prop) [Decidable p] : 0 ≤ (if p then (1 : Int) else 0) ∧ (if p then (1 : Int) else 0) ≤ 1 := by split <;> simp
/-! ===== a whole array of the store ===== -/
def sA (S : gSt) (k : Nat) (F : Int → Int) : gSt := fun a => if a = k then F else S a
theorem sA_s (S : gSt) (k : Nat) (F : Int → Int) : sA S k F k = F := if_pos rfl
theorem sA_n {S : gSt} {k a : Nat} {F : Int → Int} (h : a ≠ k) : sA S k F a = S a := if_neg h
theorem sA_id (S : gSt) (k : Nat) : sA S k (S k) = S := by
  funext a; unfold sA; split
  · next h => rw [h]
  · rfl
theorem st_sA (S : gSt) (k : Nat) (j v : Int) : st S k j v = sA S k (ud (S k) j v) := by
  funext a; unfold st sA; split
  · next h => rw [h]
  · rfl
theorem sA_sA (S : gSt) (k : Nat) (F G : Int → Int) : sA (sA S k F) k G = sA S k G := by
  funext a; unfold sA; split <;> rfl
theorem sA_c {S : gSt} {k m : Nat} {F G : Int → Int} (h : k ≠ m) : sA (sA S k F) m G = sA (sA S m G) k F := by
  funext a; unfold sA
  by_cases h1 : a = k
  · subst h1; rw [if_neg h, if_pos rfl, if_pos rfl]
  · by_cases h2 : a = m
    · subst h2; rw [if_pos rfl, if_neg h1, if_pos rfl]
    · rw [if_neg h2, if_neg h1, if_neg h1, if_neg h2]
theorem hp_eq {g : gT} {S S' : gSt} {s : State} {H : Heap} {locs : List Loc} (h : S = S') (hH : Hp g S s H locs) : Hp g S' s H locs := h ▸ hH
/-! ===== lines: who has a star, which joins, the shifts ===== -/
def hsQ (e o : Int → Int) (z : Int) : Int → Bool := fun j => decide (e j = z) || decide (o j = z)
def hsB (n e o : Int → Int) (f z : Int) : Bool := exF (hsQ e o z) (n f).toNat (10 * f)
def jnQ (e o : Int → Int) (a b : Int) : Int → Bool := fun j => (decide (e j = a) && decide (o j = b)) || (decide (e j = b) && decide (o j = a))
def jnB (n e o : Int → Int) (f a b : Int) : Bool := exF (jnQ e o a b) (n f).toNat (10 * f)
def owI (nf : Int) (n e o : Int → Int) (z : Int) : Int := fdF (fun f => hsB n e o f z) nf.toNat 0
theorem owI_b {nf : Int} {n e o : Int → Int} {z : Int} (h : 0 ≤ nf) : owI nf n e o z = -1 ∨ (0 ≤ owI nf n e o z ∧ owI nf n e o z < nf) := by
  have := fdF_b (p := fun f => hsB n e o f z) nf.toNat 0 (by omega)
  unfold owI
  omega
def shA (E : Int → Int) (j q : Int) : Int → Int := fun b => if j < b ∧ b ≤ q then E (b - 1) else E b
def insA (E : Int → Int) (p q v : Int) : Int → Int := ud (shA E p q) p v
def delA (E : Int → Int) (p q : Int) : Int → Int := fun b => if p ≤ b ∧ b < q then E (b + 1) else E b
theorem shA_0 (E : Int → Int) (q : Int) : shA E q q = E := by
  funext b; unfold shA; rw [if_neg (by omega)]
theorem shA_s (E : Int → Int) {j q : Int} (h : j ≤ q) : ud (shA E j q) j (shA E j q (j - 1)) = shA E (j - 1) q := by
  funext b
  unfold ud shA
  by_cases h1 : b = j
  · subst h1
    rw [if_pos rfl, if_neg (by omega), if_pos (by omega)]
  · rw [if_neg h1]
    by_cases h2 : j < b ∧ b ≤ q
    · rw [if_pos h2, if_pos (by omega)]
    · rw [if_neg h2, if_neg (by omega)]
theorem delA_0 (E : Int → Int) (p : Int) : delA E p p = E := by
  funext b; unfold delA; rw [if_neg (by omega)]
theorem delA_s (E : Int → Int) {p j : Int} (h : p ≤ j) : ud (delA E p j) j (delA E p j (j + 1)) = delA E p (j + 1) := by
  funext b
  unfold ud delA
  by_cases h1 : b = j
  · subst h1
    rw [if_pos rfl, if_neg (by omega), if_pos (by omega)]
  · rw [if_neg h1]
    by_cases h2 : p ≤ b ∧ b < j
    · rw [if_pos h2, if_pos (by omega)]
    · rw [if_neg h2, if_neg (by omega)]
/-- two arrays at once -/
def s2 (S : gSt) (c1 c2 : Nat) (F G : Int → Int) : gSt := sA (sA S c1 F) c2 G
theorem s2_1 {S : gSt} {c1 c2 : Nat} {F G : Int → Int} (h : c1 ≠ c2) : s2 S c1 c2 F G c1 = F := by unfold s2; rw [sA_n h, sA_s]
theorem s2_2 {S : gSt} {c1 c2 : Nat} {F G : Int → Int} : s2 S c1 c2 F G c2 = G := sA_s _ _ _
theorem s2_id (S : gSt) (c1 c2 : Nat) (h : c1 ≠ c2) : s2 S c1 c2 (S c1) (S c2) = S := by unfold s2; rw [sA_id, sA_id]
theorem s2_st1 {S : gSt} {c1 c2 : Nat} {F G : Int → Int} (h : c1 ≠ c2) (j v : Int) : st (s2 S c1 c2 F G) c1 j v = s2 S c1 c2 (ud F j v) G := by
  rw [st_sA, s2_1 h]; unfold s2; rw [sA_c (Ne.symm h), sA_sA]
theorem s2_st2 {S : gSt} {c1 c2 : Nat} {F G : Int → Int} (j v : Int) : st (s2 S c1 c2 F G) c2 j v = s2 S c1 c2 F (ud G j v) := by
  rw [st_sA, s2_2]; unfold s2; rw [sA_sA]
theorem sh_step {S : gSt} {c1 c2 : Nat} (h : c1 ≠ c2) (E O : Int → Int) {j q : Int} (hj : j ≤ q) :
    st (st (s2 S c1 c2 (shA E j q) (shA O j q)) c1 j (s2 S c1 c2 (shA E j q) (shA O j q) c1 (j - 1))) c2 j (st (s2 S c1 c2 (shA E j q) (shA O j q)) c1 j (s2 S c1 c2 (shA E j q) (shA O j q) c1 (j - 1)) c2 (j - 1)) = s2 S c1 c2 (shA E (j - 1) q) (shA O (j - 1) q) := by
  rw [s2_1 h, s2_st1 h, shA_s E hj, s2_2, s2_st2, shA_s O hj]
theorem del_step {S : gSt} {c1 c2 : Nat} (h : c1 ≠ c2) (E O : Int → Int) {p j : Int} (hj : p ≤ j) :
    st (st (s2 S c1 c2 (delA E p j) (delA O p j)) c1 j (s2 S c1 c2 (delA E p j) (delA O p j) c1 (j + 1))) c2 j (st (s2 S c1 c2 (delA E p j) (delA O p j)) c1 j (s2 S c1 c2 (delA E p j) (delA O p j) c1 (j + 1)) c2 (j + 1)) = s2 S c1 c2 (delA E p (j + 1)) (delA O p (j + 1)) := by
  rw [s2_1 h, s2_st1 h, delA_s E hj, s2_2, s2_st2, delA_s O hj]
/-- a line put in; a line taken out -/
def lnIn (S : gSt) (cn c1 c2 : Nat) (f k a b : Int) : gSt := st (s2 S c1 c2 (insA (S c1) (10 * f + k) (10 * f + S cn f) a) (insA (S c2) (10 * f + k) (10 * f + S cn f) b)) cn f (S cn f + 1)
def lnOut (S : gSt) (cn c1 c2 : Nat) (f k : Int) : gSt := st (s2 S c1 c2 (delA (S c1) (10 * f + k) (10 * f + S cn f - 1)) (delA (S c2) (10 * f + k) (10 * f + S cn f - 1))) cn f (S cn f - 1)
/-! ===== crossing ===== -/
def sgn3 (x y : Int) : Int := if x < y then -1 else if x = y then 0 else 1
def sdI (a u : Int → Int) (p q r : Int) : Int := sgn3 ((a q - a p) * (u r - u p)) ((u q - u p) * (a r - a p))
def spB (a b c d : Int) : Bool := decide (min c d ≤ max a b) && decide (min a b ≤ max c d)
def stB (a u : Int → Int) (p q r t : Int) : Bool := decide (sdI a u p q r * sdI a u p q t ≤ 0)
def meB (a u : Int → Int) (p q r t : Int) : Bool := spB (a p) (a q) (a r) (a t) && (spB (u p) (u q) (u r) (u t) && (stB a u p q r t && stB a u r t p q))
theorem sgn3_b (x y : Int) : -1 ≤ sgn3 x y ∧ sgn3 x y ≤ 1 := by unfold sgn3; split <;> (try split) <;> omega
theorem sdI_b (a u : Int → Int) (p q r : Int) : -1 ≤ sdI a u p q r ∧ sdI a u p q r ≤ 1 := sgn3_b _ _
/-! ===== what the small writers do to the store ===== -/
def mvS (S : gSt) (z a u : Int) : gSt := st (st S 2 z a) 3 z u
def adS (S : gSt) (a u : Int) : gSt := st (mvS S (S 1 0) a u) 1 0 (S 1 0 + 1)
def kpS (S : gSt) (a b v u w : Int) : gSt := st (st (st (st (st (st (st S 18 (S 17 0) a) 19 (S 17 0) b) 20 (S 17 0) v) 21 (S 17 0) u) 22 (S 17 0) w) 17 0 ((S 17 0 + 1) % 30)) 17 1 (min (S 17 1 + 1) 30)
def sbS (S : gSt) : gSt := st (st S 17 0 ((S 17 0 + 29) % 30)) 17 1 (S 17 1 - 1)
def apS (S : gSt) (a b v u : Int) : gSt := st (st (st (st (st S 13 (S 12 0) a) 14 (S 12 0) b) 15 (S 12 0) v) 16 (S 12 0) u) 12 0 (S 12 0 + 1)
/-! ===== heights of figures, shows ===== -/
theorem hg_b (lat u t : Int) : -3000 ≤ hg lat u t ∧ hg lat u t ≤ 3000 := by
  have b1 := mul_b (sn_b lat) (sn_b u) (by decide) (by decide)
  have b2 := mul_b (cs_b lat) (cs_b u) (by decide) (by decide)
  have b3 := mul_b b2 (cs_b t) (by decide) (by decide)
  unfold hg
  omega
def hgA (a u : Int → Int) (lat t : Int) : Int → Int := fun z => hg lat (u z) (t - a z)
def loQ (h e o : Int → Int) : Int → Int → Int := fun j a => min (min a (h (e j))) (h (o j))
def lwI (n e o a u : Int → Int) (f lat t : Int) : Int := lpF (loQ (hgA a u lat t) e o) (n f).toNat (10 * f) (if n f = 0 then 0 else 1000)
theorem loF_b {h e o : Int → Int} (hh : ∀ z, -3000 ≤ h z ∧ h z ≤ 3000) : ∀ (k : Nat) (j a : Int), -3000 ≤ a ∧ a ≤ 3000 → -3000 ≤ lpF (loQ h e o) k j a ∧ lpF (loQ h e o) k j a ≤ 3000
  | 0, _, _, ha => ha
  | k + 1, j, a, ha => loF_b hh k (j + 1) _ (by
      have h1 := hh (e j)
      have h2 := hh (o j)
      show -3000 ≤ min (min a (h (e j))) (h (o j)) ∧ min (min a (h (e j))) (h (o j)) ≤ 3000
      omega)
theorem lwI_b (n e o a u : Int → Int) (f lat t : Int) : -3000 ≤ lwI n e o a u f lat t ∧ lwI n e o a u f lat t ≤ 3000 := by
  unfold lwI
  refine loF_b (fun z => hg_b _ _ _) _ _ _ ?_
  split <;> omega
def upB (n e o a u : Int → Int) (f lat t : Int) : Bool := decide (0 < lwI n e o a u f lat t)
/-- the hours of a day, as a set, in which p holds -/
def dyQ (p : Int → Bool) : Int → Nat → Nat := fun h k => if p h = true then k ||| 2 ^ h.toNat else k
def dyN (p : Int → Bool) : Nat := lpF (dyQ p) (24 : Int).toNat 0 0
theorem dyF_b (p : Int → Bool) : ∀ (k : Nat) (i : Int) (a : Nat), 0 ≤ i → i + k ≤ 24 → a < 2 ^ 24 → lpF (dyQ p) k i a < 2 ^ 24
  | 0, _, _, _, _, ha => ha
  | k + 1, i, a, h0, h1, ha => dyF_b p k (i + 1) _ (by omega) (by omega) (by
      unfold dyQ
      split
      · exact Nat.or_lt_two_pow ha (Nat.pow_lt_pow_right (by decide) (by omega))
      · exact ha)
theorem dyN_b (p : Int → Bool) : dyN p < 2 ^ 24 := dyF_b p _ _ _ (by omega) (by decide) (by decide)
def hsN (a u : Int → Int) (z lat d : Int) : Nat := dyN (fun h => decide (0 < hgA a u lat (15 * h + d) z))
def swB (S : gSt) (i : Int) : Bool := !(decide (S 11 (S 13 i) = S 14 i) && upB (S 5) (S 6) (S 7) (S 2) (S 3) (S 13 i) (S 15 i) (S 16 i))
def cnQ (p : Int → Bool) : Int → Int → Int := fun i a => if p i = true then a + 1 else a
def wrI (S : gSt) : Int := lpF (cnQ (swB S)) (S 12 0).toNat 0 0
def okG (G : Int → Int) : Prop := ∀ j : Int, 0 ≤ j → j < 8 → -1 ≤ G j ∧ G j < 10
def okP (fi na la tu : Int → Int) : Prop := ∀ i : Int, 0 ≤ i → i < 12 → (0 ≤ fi i ∧ fi i < 8) ∧ (-1 ≤ na i ∧ na i < 10) ∧ (-90 ≤ la i ∧ la i ≤ 90) ∧ (0 ≤ tu i ∧ tu i ≤ 1000)
/-- two lines cross -/
def lcB (a u e o : Int → Int) (i j : Int) : Bool := !(decide (e i = e j) || (decide (e i = o j) || (decide (o i = e j) || decide (o i = o j)))) && meB a u (e i) (o i) (e j) (o j)
end
section
set_option maxRecDepth 100000 in
set_option maxHeartbeats 4000000 in
theorem c_J9_floorMod_7cf53 (l : Launch) (g : gT) (S : gSt) (x : Int) (h0 : -2147483648 ≤ x ∧ x < 2147483648) : MetG l g yJ9_floorMod_7cf53 cJ9_floorMod_7cf53 3 (some .int) 0 0 [.int (iI x), .int (iI 360)] S (some (.int (iI (x % 360)))) S := by
  refine bodyG (by decide +kernel) (Nat.le_of_ble_eq_true rfl) ?_
  intro p e s m args below meth c ls C0 hret hlk hl hH
  have zx := C0.1
  have zb := C0.2.1
  have hl : lv_has ls 3 [(0, .int (iI x)), (1, .int (iI 360))] := hl
  obtain ⟨H, hHe⟩ : ∃ H : Heap, H = s.heap := ⟨_, rfl⟩
  rw [show (Hp g S s s.heap []) = Hp g S s H [] by rw [hHe]] at hH
  rw [← hHe]
  refine lv_iload_n zx zb dJ9_floorMod_7cf53_0 rfl (lv_at hl 0 rfl) ?_
  refine lv_iload_n zx zb dJ9_floorMod_7cf53_1 rfl (lv_at hl 1 rfl) ?_
  refine bi_rem zx zb dJ9_floorMod_7cf53_2 ⟨by omega, by omega⟩ ⟨by omega, by omega⟩ (by omega) ?_
  have e3 : (x.tmod 360) = if 0 ≤ x then x % 360 else -((-x) % 360) := by by_cases h : 0 ≤ x; (rw [if_pos h]; exact tm_p h); (rw [if_neg h]; exact tm_n (by omega))
  have e4 : (0 ≤ x ∧ x.tmod 360 = x % 360) ∨ (x < 0 ∧ x.tmod 360 = -((-x) % 360)) := by split at e3 <;> omega
  refine lv_istore_n (lv' := [(2, .int (iI (x.tmod 360))), (0, .int (iI x)), (1, .int (iI 360))]) zx zb dJ9_floorMod_7cf53_3 rfl hl (by decide) rfl (fun ls hl => ?_)
  refine lv_iload_n zx zb dJ9_floorMod_7cf53_4 rfl (lv_at hl 1 rfl) ?_
  refine lv_iload_n zx zb dJ9_floorMod_7cf53_5 rfl (lv_at hl 2 rfl) ?_
  refine bx_xorge (tgt := 18) zx zb dJ9_floorMod_7cf53_6 dJ9_floorMod_7cf53_7 (by decide) ⟨by omega, by omega⟩ ⟨by omega, by omega⟩ (by omega) (fun zq6 => ?_) (fun zq6 => ?_)
  · refine lv_iload_n zx zb dJ9_floorMod_7cf53_18 rfl (lv_at hl 0 rfl) ?_
    exact retI C0 hret hlk hH (by omega) (rfl) dJ9_floorMod_7cf53_19
  · refine lv_iload_n zx zb dJ9_floorMod_7cf53_10 rfl (lv_at hl 0 rfl) ?_
    refine bz_eq (tgt := 18) zx zb dJ9_floorMod_7cf53_11 (by decide) ⟨by omega, by omega⟩ (fun zq11 => ?_) (fun zq11 => ?_)
    · refine lv_iload_n zx zb dJ9_floorMod_7cf53_18 rfl (lv_at hl 0 rfl) ?_
      exact retI C0 hret hlk hH (by omega) (rfl) dJ9_floorMod_7cf53_19
    · refine lv_iload_n zx zb dJ9_floorMod_7cf53_14 rfl (lv_at hl 0 rfl) ?_
      refine lv_iload_n zx zb dJ9_floorMod_7cf53_15 rfl (lv_at hl 2 rfl) ?_
      refine bi_add zx zb dJ9_floorMod_7cf53_16 ?_
      exact retI C0 hret hlk hH (by omega) (rfl) dJ9_floorMod_7cf53_17
set_option maxRecDepth 100000 in
set_option maxHeartbeats 4000000 in
theorem c_J9_floorDiv_7cf53 (l : Launch) (g : gT) (S : gSt) (x : Int) (h0 : -2147483648 ≤ x ∧ x < 2147483648) : MetG l g yJ9_floorDiv_7cf53 cJ9_floorDiv_7cf53 3 (some .int) 0 0 [.int (iI x), .int (iI 1000)] S (some (.int (iI (x / 1000)))) S := by
  refine bodyG (by decide +kernel) (Nat.le_of_ble_eq_true rfl) ?_
  intro p e s m args below meth c ls C0 hret hlk hl hH
  have zx := C0.1
  have zb := C0.2.1
  have hl : lv_has ls 3 [(0, .int (iI x)), (1, .int (iI 1000))] := hl
  obtain ⟨H, hHe⟩ : ∃ H : Heap, H = s.heap := ⟨_, rfl⟩
  rw [show (Hp g S s s.heap []) = Hp g S s H [] by rw [hHe]] at hH
  rw [← hHe]
  refine lv_iload_n zx zb dJ9_floorDiv_7cf53_0 rfl (lv_at hl 0 rfl) ?_
  refine lv_iload_n zx zb dJ9_floorDiv_7cf53_1 rfl (lv_at hl 1 rfl) ?_
  refine bi_div zx zb dJ9_floorDiv_7cf53_2 ⟨by omega, by omega⟩ ⟨by omega, by omega⟩ (by omega) ?_
  have e4 : (0 ≤ x ∧ x.tdiv 1000 = x / 1000) ∨ (x < 0 ∧ x.tdiv 1000 = -((-x) / 1000)) := by by_cases h : 0 ≤ x; (exact Or.inl ⟨h, td_p h⟩); (exact Or.inr ⟨by omega, td_n (by omega)⟩)
  refine lv_istore_n (lv' := [(2, .int (iI (x.tdiv 1000))), (0, .int (iI x)), (1, .int (iI 1000))]) zx zb dJ9_floorDiv_7cf53_3 rfl hl (by decide) rfl (fun ls hl => ?_)
  refine lv_iload_n zx zb dJ9_floorDiv_7cf53_4 rfl (lv_at hl 1 rfl) ?_
  refine lv_iload_n zx zb dJ9_floorDiv_7cf53_5 rfl (lv_at hl 2 rfl) ?_
  refine bx_xorge (tgt := 21) zx zb dJ9_floorDiv_7cf53_6 dJ9_floorDiv_7cf53_7 (by decide) ⟨by omega, by omega⟩ ⟨by omega, by omega⟩ (by omega) (fun zq6 => ?_) (fun zq6 => ?_)
  · refine lv_iload_n zx zb dJ9_floorDiv_7cf53_21 rfl (lv_at hl 0 rfl) ?_
    exact retI C0 hret hlk hH (by omega) (rfl) dJ9_floorDiv_7cf53_22
  · refine lv_iload_n zx zb dJ9_floorDiv_7cf53_10 rfl (lv_at hl 0 rfl) ?_
    refine lv_iload_n zx zb dJ9_floorDiv_7cf53_11 rfl (lv_at hl 2 rfl) ?_
    refine bi_mul zx zb dJ9_floorDiv_7cf53_12 ?_
    refine lv_iload_n zx zb dJ9_floorDiv_7cf53_13 rfl (lv_at hl 1 rfl) ?_
    refine bq_eq (tgt := 21) zx zb dJ9_floorDiv_7cf53_14 (by decide) ⟨by omega, by omega⟩ ⟨by omega, by omega⟩ (fun zq14 => ?_) (fun zq14 => ?_)
    · refine lv_iload_n zx zb dJ9_floorDiv_7cf53_21 rfl (lv_at hl 0 rfl) ?_
      exact retI C0 hret hlk hH (by omega) (rfl) dJ9_floorDiv_7cf53_22
    · refine lv_iload_n zx zb dJ9_floorDiv_7cf53_17 rfl (lv_at hl 0 rfl) ?_
      refine bi_const (n := 1) zx zb dJ9_floorDiv_7cf53_18 ?_
      refine bi_sub zx zb dJ9_floorDiv_7cf53_19 ?_
      exact retI C0 hret hlk hH (by omega) (rfl) dJ9_floorDiv_7cf53_20
set_option maxRecDepth 100000 in
set_option maxHeartbeats 4000000 in
theorem c_J9_min_7cf53 (l : Launch) (g : gT) (S : gSt) (x y : Int) (h0 : -2147483648 ≤ x ∧ x < 2147483648) (h1 : -2147483648 ≤ y ∧ y < 2147483648) : MetG l g yJ9_min_7cf53 cJ9_min_7cf53 2 (some .int) 0 0 [.int (iI x), .int (iI y)] S (some (.int (iI (min x y)))) S := by
  refine bodyG (by decide +kernel) (Nat.le_of_ble_eq_true rfl) ?_
  intro p e s m args below meth c ls C0 hret hlk hl hH
  have zx := C0.1
  have zb := C0.2.1
  have hl : lv_has ls 2 [(0, .int (iI x)), (1, .int (iI y))] := hl
  obtain ⟨H, hHe⟩ : ∃ H : Heap, H = s.heap := ⟨_, rfl⟩
  rw [show (Hp g S s s.heap []) = Hp g S s H [] by rw [hHe]] at hH
  rw [← hHe]
  refine lv_iload_n zx zb dJ9_min_7cf53_0 rfl (lv_at hl 0 rfl) ?_
  refine lv_iload_n zx zb dJ9_min_7cf53_1 rfl (lv_at hl 1 rfl) ?_
  refine bq_gt (tgt := 9) zx zb dJ9_min_7cf53_2 (by decide) ⟨by omega, by omega⟩ ⟨by omega, by omega⟩ (fun zq2 => ?_) (fun zq2 => ?_)
  · refine lv_iload_n zx zb dJ9_min_7cf53_9 rfl (lv_at hl 1 rfl) ?_
    exact retI C0 hret hlk hH (by omega) (rfl) dJ9_min_7cf53_10
  · refine lv_iload_n zx zb dJ9_min_7cf53_5 rfl (lv_at hl 0 rfl) ?_
    refine lv_goto (tgt := 10) zx zb dJ9_min_7cf53_6 (by decide) ?_
    exact retI C0 hret hlk hH (by omega) (rfl) dJ9_min_7cf53_10
set_option maxRecDepth 100000 in
set_option maxHeartbeats 4000000 in
theorem c_J9_max_7cf53 (l : Launch) (g : gT) (S : gSt) (x y : Int) (h0 : -2147483648 ≤ x ∧ x < 2147483648) (h1 : -2147483648 ≤ y ∧ y < 2147483648) : MetG l g yJ9_max_7cf53 cJ9_max_7cf53 2 (some .int) 0 0 [.int (iI x), .int (iI y)] S (some (.int (iI (max x y)))) S := by
  refine bodyG (by decide +kernel) (Nat.le_of_ble_eq_true rfl) ?_
  intro p e s m args below meth c ls C0 hret hlk hl hH
  have zx := C0.1
  have zb := C0.2.1
  have hl : lv_has ls 2 [(0, .int (iI x)), (1, .int (iI y))] := hl
  obtain ⟨H, hHe⟩ : ∃ H : Heap, H = s.heap := ⟨_, rfl⟩
  rw [show (Hp g S s s.heap []) = Hp g S s H [] by rw [hHe]] at hH
  rw [← hHe]
  refine lv_iload_n zx zb dJ9_max_7cf53_0 rfl (lv_at hl 0 rfl) ?_
  refine lv_iload_n zx zb dJ9_max_7cf53_1 rfl (lv_at hl 1 rfl) ?_
  refine bq_lt (tgt := 9) zx zb dJ9_max_7cf53_2 (by decide) ⟨by omega, by omega⟩ ⟨by omega, by omega⟩ (fun zq2 => ?_) (fun zq2 => ?_)
  · refine lv_iload_n zx zb dJ9_max_7cf53_9 rfl (lv_at hl 1 rfl) ?_
    exact retI C0 hret hlk hH (by omega) (rfl) dJ9_max_7cf53_10
  · refine lv_iload_n zx zb dJ9_max_7cf53_5 rfl (lv_at hl 0 rfl) ?_
    refine lv_goto (tgt := 10) zx zb dJ9_max_7cf53_6 (by decide) ?_
    exact retI C0 hret hlk hH (by omega) (rfl) dJ9_max_7cf53_10
set_option maxRecDepth 100000 in
set_option maxHeartbeats 4000000 in
theorem c_J6_compare_7cf53 (l : Launch) (g : gT) (S : gSt) (x y : Int) (h0 : -2147483648 ≤ x ∧ x < 2147483648) (h1 : -2147483648 ≤ y ∧ y < 2147483648) : MetG l g yJ6_compare_7cf53 cJ6_compare_7cf53 2 (some .int) 0 0 [.int (iI x), .int (iI y)] S (some (.int (iI (if x < y then -1 else if x = y then 0 else 1)))) S := by
  refine bodyG (by decide +kernel) (Nat.le_of_ble_eq_true rfl) ?_
  intro p e s m args below meth c ls C0 hret hlk hl hH
  have zx := C0.1
  have zb := C0.2.1
  have hl : lv_has ls 2 [(0, .int (iI x)), (1, .int (iI y))] := hl
  obtain ⟨H, hHe⟩ : ∃ H : Heap, H = s.heap := ⟨_, rfl⟩
  rw [show (Hp g S s s.heap []) = Hp g S s H [] by rw [hHe]] at hH
  rw [← hHe]
  refine lv_iload_n zx zb dJ6_compare_7cf53_0 rfl (lv_at hl 0 rfl) ?_
  refine lv_iload_n zx zb dJ6_compare_7cf53_1 rfl (lv_at hl 1 rfl) ?_
  refine bq_ge (tgt := 9) zx zb dJ6_compare_7cf53_2 (by decide) ⟨by omega, by omega⟩ ⟨by omega, by omega⟩ (fun zq2 => ?_) (fun zq2 => ?_)
  · refine lv_iload_n zx zb dJ6_compare_7cf53_9 rfl (lv_at hl 0 rfl) ?_
    refine lv_iload_n zx zb dJ6_compare_7cf53_10 rfl (lv_at hl 1 rfl) ?_
    refine bq_ne (tgt := 18) zx zb dJ6_compare_7cf53_11 (by decide) ⟨by omega, by omega⟩ ⟨by omega, by omega⟩ (fun zq11 => ?_) (fun zq11 => ?_)
    · refine bi_const (n := 1) zx zb dJ6_compare_7cf53_18 ?_
      exact retI C0 hret hlk hH (by split <;> (try split) <;> omega) (rfl) dJ6_compare_7cf53_19
    · refine bi_const (n := 0) zx zb dJ6_compare_7cf53_14 ?_
      refine lv_goto (tgt := 19) zx zb dJ6_compare_7cf53_15 (by decide) ?_
      exact retI C0 hret hlk hH (by split <;> (try split) <;> omega) (rfl) dJ6_compare_7cf53_19
  · refine bi_const (n := (-1)) zx zb dJ6_compare_7cf53_5 ?_
    refine lv_goto (tgt := 19) zx zb dJ6_compare_7cf53_6 (by decide) ?_
    exact retI C0 hret hlk hH (by split <;> (try split) <;> omega) (rfl) dJ6_compare_7cf53_19
set_option maxRecDepth 100000 in
set_option maxHeartbeats 4000000 in
theorem c_X0_sine (l : Launch) (g : gT) (S : gSt) (a : Int) (h0 : -2147483648 ≤ a ∧ a < 2147483648) : MetG l g yX0_sine cX0_sine 6 (some .int) 1 22 [.int (iI a)] S (some (.int (iI (sn a)))) S := by
  refine bodyG (by decide +kernel) (Nat.le_of_ble_eq_true rfl) ?_
  intro p e s m args below meth c ls C0 hret hlk hl hH
  have zx := C0.1
  have zb := C0.2.1
  have hl : lv_has ls 6 [(0, .int (iI a))] := hl
  obtain ⟨H, hHe⟩ : ∃ H : Heap, H = s.heap := ⟨_, rfl⟩
  rw [show (Hp g S s s.heap []) = Hp g S s H [] by rw [hHe]] at hH
  rw [← hHe]
  refine lv_iload_n zx zb dX0_sine_0 rfl (lv_at hl 0 rfl) ?_
  refine bi_sip (n := 360) zx zb dX0_sine_1 (by decide) ?_
  refine csI (rest := []) (As := [.int (iI a), .int (iI 360)]) C0 hH (c_J9_floorMod_7cf53 l g S a (by omega)) kw_X0_9 ky_J9_floorMod_7cf53 ⟨Nat.le_of_ble_eq_true rfl, Nat.le_of_ble_eq_true rfl⟩ ⟨Nat.zero_le _, Nat.zero_le _⟩ rfl hl.1 rfl (Nat.le_of_ble_eq_true rfl) dX0_sine_4 (fun H locs hH => ?_)
  refine lv_istore_n (lv' := [(1, .int (iI (a % 360))), (0, .int (iI a))]) zx zb dX0_sine_7 rfl hl (by decide) rfl (fun ls hl => ?_)
  refine lv_iload_n zx zb dX0_sine_8 rfl (lv_at hl 0 rfl) ?_
  refine bi_sip (n := 180) zx zb dX0_sine_9 (by decide) ?_
  refine bi_rem zx zb dX0_sine_12 ⟨by omega, by omega⟩ ⟨by omega, by omega⟩ (by omega) ?_
  rw [tm_p (show 0 ≤ a % 360 by omega)]
  refine lv_istore_n (lv' := [(2, .int (iI (a % 360 % 180))), (1, .int (iI (a % 360))), (0, .int (iI a))]) zx zb dX0_sine_13 rfl hl (by decide) rfl (fun ls hl => ?_)
  refine lv_iload_n zx zb dX0_sine_14 rfl (lv_at hl 0 rfl) ?_
  refine bi_sip (n := 180) zx zb dX0_sine_15 (by decide) ?_
  refine lv_iload_n zx zb dX0_sine_18 rfl (lv_at hl 0 rfl) ?_
  refine bi_sub zx zb dX0_sine_19 ?_
  refine bi_mul zx zb dX0_sine_20 ?_
  have hpb := prod_b (h := a % 360 % 180) (by omega) (by omega)
  obtain ⟨P, hP⟩ : ∃ P : Int, P = a % 360 % 180 * (180 - a % 360 % 180) := ⟨_, rfl⟩
  rw [← hP] at hpb ⊢
  refine lv_istore_n (lv' := [(3, .int (iI P)), (2, .int (iI (a % 360 % 180))), (1, .int (iI (a % 360))), (0, .int (iI a))]) zx zb dX0_sine_21 rfl hl (by decide) rfl (fun ls hl => ?_)
  refine bi_ldc (n := 40500) zx zb C0.2.2.2.1 (C0.2.2.2.2.1.w (gm 242 (by decide +kernel) rfl)) dX0_sine_22 ?_
  refine lv_iload_n zx zb dX0_sine_24 rfl (lv_at hl 0 rfl) ?_
  refine bi_sub zx zb dX0_sine_25 ?_
  refine lv_istore (lv' := [(4, .int (iI (40500 - P))), (3, .int (iI P)), (2, .int (iI (a % 360 % 180))), (1, .int (iI (a % 360))), (0, .int (iI a))]) zx zb dX0_sine_26 hl (by decide) rfl (fun ls hl => ?_)
  refine lv_iload zx zb dX0_sine_28 (lv_at hl 0 rfl) ?_
  refine bz_le (tgt := 44) zx zb dX0_sine_30 (by decide) ⟨by omega, by omega⟩ (fun zq30 => ?_) (fun zq30 => ?_)
  · exact absurd zq30 (by omega)
  · refine bi_sip (n := 4000) zx zb dX0_sine_33 (by decide) ?_
    refine lv_iload_n zx zb dX0_sine_36 rfl (lv_at hl 1 rfl) ?_
    refine bi_mul zx zb dX0_sine_37 ?_
    refine lv_iload zx zb dX0_sine_38 (lv_at hl 0 rfl) ?_
    refine bi_div zx zb dX0_sine_40 ⟨by omega, by omega⟩ ⟨by omega, by omega⟩ (by omega) ?_
    rw [td_p (show 0 ≤ 4000 * P by omega)]
    refine lv_goto (tgt := 45) zx zb dX0_sine_41 (by decide) ?_
    refine lv_istore (lv' := [(5, .int (iI ((4000 * P) / (40500 - P)))), (4, .int (iI (40500 - P))), (3, .int (iI P)), (2, .int (iI (a % 360 % 180))), (1, .int (iI (a % 360))), (0, .int (iI a))]) zx zb dX0_sine_45 hl (by decide) rfl (fun ls hl => ?_)
    refine lv_iload_n zx zb dX0_sine_47 rfl (lv_at hl 4 rfl) ?_
    refine bi_sip (n := 180) zx zb dX0_sine_48 (by decide) ?_
    refine bq_ge (tgt := 59) zx zb dX0_sine_51 (by decide) ⟨by omega, by omega⟩ ⟨by omega, by omega⟩ (fun zq51 => ?_) (fun zq51 => ?_)
    · refine lv_iload zx zb dX0_sine_59 (lv_at hl 0 rfl) ?_
      refine bi_neg zx zb dX0_sine_61 ?_
      exact retI C0 hret hlk hH (by simp only [sn, sh, ← hP]; split <;> first | rfl | omega) (rfl) dX0_sine_62
    · refine lv_iload zx zb dX0_sine_54 (lv_at hl 0 rfl) ?_
      refine lv_goto (tgt := 62) zx zb dX0_sine_56 (by decide) ?_
      exact retI C0 hret hlk hH (by simp only [sn, sh, ← hP]; split <;> first | rfl | omega) (rfl) dX0_sine_62
set_option maxRecDepth 100000 in
set_option maxHeartbeats 4000000 in
theorem c_X0_cosine (l : Launch) (g : gT) (S : gSt) (a : Int) (h0 : -2147483648 ≤ a ∧ a < 2147483000) : MetG l g yX0_cosine cX0_cosine 1 (some .int) 2 47 [.int (iI a)] S (some (.int (iI (cs a)))) S := by
  refine bodyG (by decide +kernel) (Nat.le_of_ble_eq_true rfl) ?_
  intro p e s m args below meth c ls C0 hret hlk hl hH
  have zx := C0.1
  have zb := C0.2.1
  have hl : lv_has ls 1 [(0, .int (iI a))] := hl
  obtain ⟨H, hHe⟩ : ∃ H : Heap, H = s.heap := ⟨_, rfl⟩
  rw [show (Hp g S s s.heap []) = Hp g S s H [] by rw [hHe]] at hH
  rw [← hHe]
  refine lv_iload_n zx zb dX0_cosine_0 rfl (lv_at hl 0 rfl) ?_
  refine bi_bip (n := 90) zx zb dX0_cosine_1 (by decide) ?_
  refine bi_add zx zb dX0_cosine_3 ?_
  refine csI (rest := []) (As := [.int (iI (a + 90))]) C0 hH (c_X0_sine l g S (a + 90) (by omega)) kw_X0_18 ky_X0_sine ⟨Nat.le_of_ble_eq_true rfl, Nat.le_of_ble_eq_true rfl⟩ ⟨Nat.zero_le _, Nat.zero_le _⟩ rfl hl.1 rfl (Nat.le_of_ble_eq_true rfl) dX0_cosine_4 (fun H locs hH => ?_)
  exact retI C0 hret hlk hH (by rfl) (rfl) dX0_cosine_7
set_option maxRecDepth 100000 in
set_option maxHeartbeats 4000000 in
theorem c_X2_heightAt (l : Launch) (g : gT) (S : gSt) (z lat t : Int) (hz : 0 ≤ z ∧ z < 24) (hlat : -90 ≤ lat ∧ lat ≤ 90) (ht : 0 ≤ t ∧ t ≤ 1000) (hC : okC (S 2) (S 3)) : MetG l g yX2_heightAt cX2_heightAt 7 (some .int) 3 67 [.ref (g.1 1), .int (iI z), .int (iI lat), .int (iI t)] S (some (.int (iI (hg lat (S 3 z) (t - S 2 z))))) S := by
  refine bodyG (by decide +kernel) (Nat.le_of_ble_eq_true rfl) ?_
  intro p e s m args below meth c ls C0 hret hlk hl hH
  have zx := C0.1
  have zb := C0.2.1
  have hl : lv_has ls 7 [(0, .ref (g.1 1)), (1, .int (iI z)), (2, .int (iI lat)), (3, .int (iI t))] := hl
  obtain ⟨H, hHe⟩ : ∃ H : Heap, H = s.heap := ⟨_, rfl⟩
  rw [show (Hp g S s s.heap []) = Hp g S s H [] by rw [hHe]] at hH
  rw [← hHe]
  have hc := hC z hz.1 hz.2
  refine lv_aload_n zx zb dX2_heightAt_0 rfl (lv_at hl 0 rfl) ?_
  refine gf_X2_15 C0 hH dX2_heightAt_1 ?_
  refine lv_iload_n zx zb dX2_heightAt_4 rfl (lv_at hl 1 rfl) ?_
  refine al_3 C0 hH (by omega) (by omega) dX2_heightAt_5 ?_
  refine lv_istore (lv' := [(4, .int (iI (S 3 z))), (0, .ref (g.1 1)), (1, .int (iI z)), (2, .int (iI lat)), (3, .int (iI t))]) zx zb dX2_heightAt_6 hl (by decide) rfl (fun ls hl => ?_)
  refine lv_iload_n zx zb dX2_heightAt_8 rfl (lv_at hl 3 rfl) ?_
  refine csI (rest := []) (As := [.int (iI lat)]) C0 hH (c_X0_sine l g S lat (by omega)) kw_X2_26 ky_X0_sine ⟨Nat.le_of_ble_eq_true rfl, Nat.le_of_ble_eq_true rfl⟩ ⟨Nat.zero_le _, Nat.zero_le _⟩ rfl hl.1 rfl (Nat.le_of_ble_eq_true rfl) dX2_heightAt_9 (fun H locs hH => ?_)
  refine lv_iload zx zb dX2_heightAt_12 (lv_at hl 0 rfl) ?_
  refine csI (rest := [.int (iI (sn lat))]) (As := [.int (iI (S 3 z))]) C0 hH (c_X0_sine l g S (S 3 z) (by omega)) kw_X2_26 ky_X0_sine ⟨Nat.le_of_ble_eq_true rfl, Nat.le_of_ble_eq_true rfl⟩ ⟨Nat.zero_le _, Nat.zero_le _⟩ rfl hl.1 rfl (Nat.le_of_ble_eq_true rfl) dX2_heightAt_14 (fun H locs hH => ?_)
  refine bi_mul zx zb dX2_heightAt_17 ?_
  refine lv_istore (lv' := [(5, .int (iI ((sn lat) * (sn (S 3 z))))), (4, .int (iI (S 3 z))), (0, .ref (g.1 1)), (1, .int (iI z)), (2, .int (iI lat)), (3, .int (iI t))]) zx zb dX2_heightAt_18 hl (by decide) rfl (fun ls hl => ?_)
  refine lv_iload_n zx zb dX2_heightAt_20 rfl (lv_at hl 4 rfl) ?_
  refine csI (rest := []) (As := [.int (iI lat)]) C0 hH (c_X0_cosine l g S lat (by omega)) kw_X2_32 ky_X0_cosine ⟨Nat.le_of_ble_eq_true rfl, Nat.le_of_ble_eq_true rfl⟩ ⟨Nat.zero_le _, Nat.zero_le _⟩ rfl hl.1 rfl (Nat.le_of_ble_eq_true rfl) dX2_heightAt_21 (fun H locs hH => ?_)
  refine lv_iload zx zb dX2_heightAt_24 (lv_at hl 1 rfl) ?_
  refine csI (rest := [.int (iI (cs lat))]) (As := [.int (iI (S 3 z))]) C0 hH (c_X0_cosine l g S (S 3 z) (by omega)) kw_X2_32 ky_X0_cosine ⟨Nat.le_of_ble_eq_true rfl, Nat.le_of_ble_eq_true rfl⟩ ⟨Nat.zero_le _, Nat.zero_le _⟩ rfl hl.1 rfl (Nat.le_of_ble_eq_true rfl) dX2_heightAt_26 (fun H locs hH => ?_)
  refine bi_mul zx zb dX2_heightAt_29 ?_
  refine lv_iload_n zx zb dX2_heightAt_30 rfl (lv_at hl 5 rfl) ?_
  refine lv_aload_n zx zb dX2_heightAt_31 rfl (lv_at hl 2 rfl) ?_
  refine gf_X2_9 C0 hH dX2_heightAt_32 ?_
  refine lv_iload_n zx zb dX2_heightAt_35 rfl (lv_at hl 3 rfl) ?_
  refine al_2 C0 hH (by omega) (by omega) dX2_heightAt_36 ?_
  refine bi_sub zx zb dX2_heightAt_37 ?_
  refine csI (rest := [.int (iI ((cs lat) * (cs (S 3 z))))]) (As := [.int (iI (t - (S 2 z)))]) C0 hH (c_X0_cosine l g S (t - (S 2 z)) (by omega)) kw_X2_32 ky_X0_cosine ⟨Nat.le_of_ble_eq_true rfl, Nat.le_of_ble_eq_true rfl⟩ ⟨Nat.zero_le _, Nat.zero_le _⟩ rfl hl.1 rfl (Nat.le_of_ble_eq_true rfl) dX2_heightAt_38 (fun H locs hH => ?_)
  refine bi_mul zx zb dX2_heightAt_41 ?_
  refine lv_istore (lv' := [(6, .int (iI (((cs lat) * (cs (S 3 z))) * (cs (t - (S 2 z)))))), (5, .int (iI ((sn lat) * (sn (S 3 z))))), (4, .int (iI (S 3 z))), (0, .ref (g.1 1)), (1, .int (iI z)), (2, .int (iI lat)), (3, .int (iI t))]) zx zb dX2_heightAt_42 hl (by decide) rfl (fun ls hl => ?_)
  have b1 := mul_b (sn_b lat) (sn_b (S 3 z)) (by decide) (by decide)
  have b2 := mul_b (cs_b lat) (cs_b (S 3 z)) (by decide) (by decide)
  have b3 := mul_b b2 (cs_b (t - S 2 z)) (by decide) (by decide)
  refine lv_iload zx zb dX2_heightAt_44 (lv_at hl 1 rfl) ?_
  refine lv_iload zx zb dX2_heightAt_46 (lv_at hl 0 rfl) ?_
  refine bi_sip (n := 1000) zx zb dX2_heightAt_48 (by decide) ?_
  refine csI (rest := [.int (iI ((sn lat) * (sn (S 3 z))))]) (As := [.int (iI (((cs lat) * (cs (S 3 z))) * (cs (t - (S 2 z))))), .int (iI 1000)]) C0 hH (c_J9_floorDiv_7cf53 l g S (((cs lat) * (cs (S 3 z))) * (cs (t - (S 2 z)))) (by omega)) kw_X2_35 ky_J9_floorDiv_7cf53 ⟨Nat.le_of_ble_eq_true rfl, Nat.le_of_ble_eq_true rfl⟩ ⟨Nat.zero_le _, Nat.zero_le _⟩ rfl hl.1 rfl (Nat.le_of_ble_eq_true rfl) dX2_heightAt_51 (fun H locs hH => ?_)
  refine bi_add zx zb dX2_heightAt_54 ?_
  refine bi_sip (n := 1000) zx zb dX2_heightAt_55 (by decide) ?_
  refine csI (rest := []) (As := [.int (iI (((sn lat) * (sn (S 3 z))) + ((((cs lat) * (cs (S 3 z))) * (cs (t - (S 2 z)))) / 1000))), .int (iI 1000)]) C0 hH (c_J9_floorDiv_7cf53 l g S (((sn lat) * (sn (S 3 z))) + ((((cs lat) * (cs (S 3 z))) * (cs (t - (S 2 z)))) / 1000)) (by omega)) kw_X2_35 ky_J9_floorDiv_7cf53 ⟨Nat.le_of_ble_eq_true rfl, Nat.le_of_ble_eq_true rfl⟩ ⟨Nat.zero_le _, Nat.zero_le _⟩ rfl hl.1 rfl (Nat.le_of_ble_eq_true rfl) dX2_heightAt_58 (fun H locs hH => ?_)
  exact retI C0 hret hlk hH (by rfl) (rfl) dX2_heightAt_61
end
section
set_option maxRecDepth 100000 in
set_option maxHeartbeats 4000000 in
theorem c_X2_move (l : Launch) (g : gT) (S : gSt) (z a u : Int) (hz : 0 ≤ z ∧ z < 24) : MetG l g yX2_move cX2_move 4 none 0 0 [.ref (g.1 1), .int (iI z), .int (iI a), .int (iI u)] S none (mvS S z a u) := by
  refine bodyG (by decide +kernel) (Nat.le_of_ble_eq_true rfl) ?_
  intro p e s m args below meth c ls C0 hret hlk hl hH
  have zx := C0.1
  have zb := C0.2.1
  have hl : lv_has ls 4 [(0, .ref (g.1 1)), (1, .int (iI z)), (2, .int (iI a)), (3, .int (iI u))] := hl
  obtain ⟨H, hHe⟩ : ∃ H : Heap, H = s.heap := ⟨_, rfl⟩
  rw [show (Hp g S s s.heap []) = Hp g S s H [] by rw [hHe]] at hH
  rw [← hHe]
  refine lv_aload_n zx zb dX2_move_0 rfl (lv_at hl 0 rfl) ?_
  refine gf_X2_9 C0 hH dX2_move_1 ?_
  refine lv_iload_n zx zb dX2_move_4 rfl (lv_at hl 1 rfl) ?_
  refine lv_iload_n zx zb dX2_move_5 rfl (lv_at hl 2 rfl) ?_
  refine as_2 C0 hH (by omega) (by omega) dX2_move_6 (fun H locs hH => ?_)
  refine lv_aload_n zx zb dX2_move_7 rfl (lv_at hl 0 rfl) ?_
  refine gf_X2_15 C0 hH dX2_move_8 ?_
  refine lv_iload_n zx zb dX2_move_11 rfl (lv_at hl 1 rfl) ?_
  refine lv_iload_n zx zb dX2_move_12 rfl (lv_at hl 3 rfl) ?_
  refine as_3 C0 hH (by omega) (by omega) dX2_move_13 (fun H locs hH => ?_)
  exact retV C0 hret hlk hH (rfl) dX2_move_14
set_option maxRecDepth 100000 in
set_option maxHeartbeats 4000000 in
theorem c_X2_append (l : Launch) (g : gT) (S : gSt) (a u : Int) (hn : 0 ≤ S 1 0 ∧ S 1 0 < 24) : MetG l g yX2_append cX2_append 4 (some .int) 1 23 [.ref (g.1 1), .int (iI a), .int (iI u)] S (some (.int (iI (S 1 0)))) (adS S a u) := by
  refine bodyG (by decide +kernel) (Nat.le_of_ble_eq_true rfl) ?_
  intro p e s m args below meth c ls C0 hret hlk hl hH
  have zx := C0.1
  have zb := C0.2.1
  have hl : lv_has ls 4 [(0, .ref (g.1 1)), (1, .int (iI a)), (2, .int (iI u))] := hl
  obtain ⟨H, hHe⟩ : ∃ H : Heap, H = s.heap := ⟨_, rfl⟩
  rw [show (Hp g S s s.heap []) = Hp g S s H [] by rw [hHe]] at hH
  rw [← hHe]
  refine lv_aload_n zx zb dX2_append_0 rfl (lv_at hl 0 rfl) ?_
  refine gf_X2_18 C0 hH dX2_append_1 ?_
  refine lv_istore_n (lv' := [(3, .int (iI (S 1 0))), (0, .ref (g.1 1)), (1, .int (iI a)), (2, .int (iI u))]) zx zb dX2_append_4 rfl hl (by decide) rfl (fun ls hl => ?_)
  refine lv_iload_n zx zb dX2_append_5 rfl (lv_at hl 0 rfl) ?_
  refine bi_bip (n := 24) zx zb dX2_append_6 (by decide) ?_
  refine bq_ge (tgt := 28) zx zb dX2_append_8 (by decide) ⟨by omega, by omega⟩ ⟨by omega, by omega⟩ (fun zq8 => ?_) (fun zq8 => ?_)
  · exact absurd zq8 (by omega)
  · refine lv_aload_n zx zb dX2_append_11 rfl (lv_at hl 1 rfl) ?_
    refine lv_iload_n zx zb dX2_append_12 rfl (lv_at hl 0 rfl) ?_
    refine lv_iload_n zx zb dX2_append_13 rfl (lv_at hl 2 rfl) ?_
    refine lv_iload_n zx zb dX2_append_14 rfl (lv_at hl 3 rfl) ?_
    refine cvN (rest := []) (As := [.int (iI (S 1 0)), .int (iI a), .int (iI u)]) (b := g.1 1) C0 hH (c_X2_move l g S (S 1 0) a u (by omega)) kw_X2_22 ky_X2_move ⟨Nat.le_of_ble_eq_true rfl, Nat.le_of_ble_eq_true rfl⟩ ⟨Nat.zero_le _, Nat.zero_le _⟩ 1 rfl rfl rfl hl.1 rfl (Nat.le_of_ble_eq_true rfl) dX2_append_15 (fun H locs hH => ?_)
    refine lv_aload_n zx zb dX2_append_18 rfl (lv_at hl 1 rfl) ?_
    refine lv_dup zx zb dX2_append_19 rfl ?_
    refine gf_X2_18 C0 hH dX2_append_20 ?_
    show W p l e _ s m args below meth c H _ _ _ _ (F0 m 23 ls [.int (iI (S 1 0)), .ref (g.1 1)])
    refine bi_const (n := 1) zx zb dX2_append_23 ?_
    refine bi_add zx zb dX2_append_24 ?_
    refine pf_X2_18 C0 hH dX2_append_25 (fun H locs hH => ?_)
    refine lv_iload_n zx zb dX2_append_28 rfl (lv_at hl 0 rfl) ?_
    exact retI C0 hret hlk hH (by rfl) (rfl) dX2_append_29
set_option maxRecDepth 100000 in
set_option maxHeartbeats 4000000 in
theorem c_X2_spansOverlap (l : Launch) (g : gT) (S : gSt) (a b y t : Int) (ha : -400 ≤ a ∧ a < 400) (hb : -400 ≤ b ∧ b < 400) (hc : -400 ≤ y ∧ y < 400) (hd : -400 ≤ t ∧ t < 400) : MetG l g yX2_spansOverlap cX2_spansOverlap 4 (some .boolean) 1 21 [.int (iI a), .int (iI b), .int (iI y), .int (iI t)] S (some (.int (iI (if spB a b y t = true then 1 else 0)))) S := by
  refine bodyG (by decide +kernel) (Nat.le_of_ble_eq_true rfl) ?_
  intro p e s m args below meth c ls C0 hret hlk hl hH
  have zx := C0.1
  have zb := C0.2.1
  have hl : lv_has ls 4 [(0, .int (iI a)), (1, .int (iI b)), (2, .int (iI y)), (3, .int (iI t))] := hl
  obtain ⟨H, hHe⟩ : ∃ H : Heap, H = s.heap := ⟨_, rfl⟩
  rw [show (Hp g S s s.heap []) = Hp g S s H [] by rw [hHe]] at hH
  rw [← hHe]
  refine lv_iload_n zx zb dX2_spansOverlap_0 rfl (lv_at hl 0 rfl) ?_
  refine lv_iload_n zx zb dX2_spansOverlap_1 rfl (lv_at hl 1 rfl) ?_
  refine csI (rest := []) (As := [.int (iI a), .int (iI b)]) C0 hH (c_J9_max_7cf53 l g S a b (by omega) (by omega)) kw_X2_48 ky_J9_max_7cf53 ⟨Nat.le_of_ble_eq_true rfl, Nat.le_of_ble_eq_true rfl⟩ ⟨Nat.zero_le _, Nat.zero_le _⟩ rfl hl.1 rfl (Nat.le_of_ble_eq_true rfl) dX2_spansOverlap_2 (fun H locs hH => ?_)
  refine lv_iload_n zx zb dX2_spansOverlap_5 rfl (lv_at hl 2 rfl) ?_
  refine lv_iload_n zx zb dX2_spansOverlap_6 rfl (lv_at hl 3 rfl) ?_
  refine csI (rest := [.int (iI (max a b))]) (As := [.int (iI y), .int (iI t)]) C0 hH (c_J9_min_7cf53 l g S y t (by omega) (by omega)) kw_X2_51 ky_J9_min_7cf53 ⟨Nat.le_of_ble_eq_true rfl, Nat.le_of_ble_eq_true rfl⟩ ⟨Nat.zero_le _, Nat.zero_le _⟩ rfl hl.1 rfl (Nat.le_of_ble_eq_true rfl) dX2_spansOverlap_7 (fun H locs hH => ?_)
  refine bq_lt (tgt := 30) zx zb dX2_spansOverlap_10 (by decide) ⟨by omega, by omega⟩ ⟨by omega, by omega⟩ (fun zq10 => ?_) (fun zq10 => ?_)
  · refine bi_const (n := 0) zx zb dX2_spansOverlap_30 ?_
    exact retZ C0 hret hlk hH (by unfold spB; first | (rw [if_pos (by simp; omega)]; done) | (rw [if_neg (by simp; omega)]; done)) (by omega) (rfl) dX2_spansOverlap_31
  · refine lv_iload_n zx zb dX2_spansOverlap_13 rfl (lv_at hl 2 rfl) ?_
    refine lv_iload_n zx zb dX2_spansOverlap_14 rfl (lv_at hl 3 rfl) ?_
    refine csI (rest := []) (As := [.int (iI y), .int (iI t)]) C0 hH (c_J9_max_7cf53 l g S y t (by omega) (by omega)) kw_X2_48 ky_J9_max_7cf53 ⟨Nat.le_of_ble_eq_true rfl, Nat.le_of_ble_eq_true rfl⟩ ⟨Nat.zero_le _, Nat.zero_le _⟩ rfl hl.1 rfl (Nat.le_of_ble_eq_true rfl) dX2_spansOverlap_15 (fun H locs hH => ?_)
    refine lv_iload_n zx zb dX2_spansOverlap_18 rfl (lv_at hl 0 rfl) ?_
    refine lv_iload_n zx zb dX2_spansOverlap_19 rfl (lv_at hl 1 rfl) ?_
    refine csI (rest := [.int (iI (max y t))]) (As := [.int (iI a), .int (iI b)]) C0 hH (c_J9_min_7cf53 l g S a b (by omega) (by omega)) kw_X2_51 ky_J9_min_7cf53 ⟨Nat.le_of_ble_eq_true rfl, Nat.le_of_ble_eq_true rfl⟩ ⟨Nat.zero_le _, Nat.zero_le _⟩ rfl hl.1 rfl (Nat.le_of_ble_eq_true rfl) dX2_spansOverlap_20 (fun H locs hH => ?_)
    refine bq_lt (tgt := 30) zx zb dX2_spansOverlap_23 (by decide) ⟨by omega, by omega⟩ ⟨by omega, by omega⟩ (fun zq23 => ?_) (fun zq23 => ?_)
    · refine bi_const (n := 0) zx zb dX2_spansOverlap_30 ?_
      exact retZ C0 hret hlk hH (by unfold spB; first | (rw [if_pos (by simp; omega)]; done) | (rw [if_neg (by simp; omega)]; done)) (by omega) (rfl) dX2_spansOverlap_31
    · refine bi_const (n := 1) zx zb dX2_spansOverlap_26 ?_
      refine lv_goto (tgt := 31) zx zb dX2_spansOverlap_27 (by decide) ?_
      exact retZ C0 hret hlk hH (by unfold spB; first | (rw [if_pos (by simp; omega)]; done) | (rw [if_neg (by simp; omega)]; done)) (by omega) (rfl) dX2_spansOverlap_31
set_option maxRecDepth 100000 in
set_option maxHeartbeats 4000000 in
theorem c_X2_sideOf (l : Launch) (g : gT) (S : gSt) (a b y : Int) (ha : 0 ≤ a ∧ a < 24) (hb : 0 ≤ b ∧ b < 24) (hc : 0 ≤ y ∧ y < 24) (hC : okC (S 2) (S 3)) : MetG l g yX2_sideOf cX2_sideOf 4 (some .int) 1 21 [.ref (g.1 1), .int (iI a), .int (iI b), .int (iI y)] S (some (.int (iI (sdI (S 2) (S 3) a b y)))) S := by
  refine bodyG (by decide +kernel) (Nat.le_of_ble_eq_true rfl) ?_
  intro p e s m args below meth c ls C0 hret hlk hl hH
  have zx := C0.1
  have zb := C0.2.1
  have hl : lv_has ls 4 [(0, .ref (g.1 1)), (1, .int (iI a)), (2, .int (iI b)), (3, .int (iI y))] := hl
  obtain ⟨H, hHe⟩ : ∃ H : Heap, H = s.heap := ⟨_, rfl⟩
  rw [show (Hp g S s s.heap []) = Hp g S s H [] by rw [hHe]] at hH
  rw [← hHe]
  have ca := hC a ha.1 ha.2
  have cb := hC b hb.1 hb.2
  have cc1 := hC y hc.1 hc.2
  have m1 := mul_b (a := S 2 b - S 2 a) (b := S 3 y - S 3 a) (A := 360) (B := 180) (by omega) (by omega) (by decide) (by decide)
  have m2 := mul_b (a := S 3 b - S 3 a) (b := S 2 y - S 2 a) (A := 180) (B := 360) (by omega) (by omega) (by decide) (by decide)
  refine lv_aload_n zx zb dX2_sideOf_0 rfl (lv_at hl 0 rfl) ?_
  refine gf_X2_9 C0 hH dX2_sideOf_1 ?_
  refine lv_iload_n zx zb dX2_sideOf_4 rfl (lv_at hl 2 rfl) ?_
  refine al_2 C0 hH (by omega) (by omega) dX2_sideOf_5 ?_
  refine lv_aload_n zx zb dX2_sideOf_6 rfl (lv_at hl 0 rfl) ?_
  refine gf_X2_9 C0 hH dX2_sideOf_7 ?_
  refine lv_iload_n zx zb dX2_sideOf_10 rfl (lv_at hl 1 rfl) ?_
  refine al_2 C0 hH (by omega) (by omega) dX2_sideOf_11 ?_
  refine bi_sub zx zb dX2_sideOf_12 ?_
  refine lv_aload_n zx zb dX2_sideOf_13 rfl (lv_at hl 0 rfl) ?_
  refine gf_X2_15 C0 hH dX2_sideOf_14 ?_
  refine lv_iload_n zx zb dX2_sideOf_17 rfl (lv_at hl 3 rfl) ?_
  refine al_3 C0 hH (by omega) (by omega) dX2_sideOf_18 ?_
  refine lv_aload_n zx zb dX2_sideOf_19 rfl (lv_at hl 0 rfl) ?_
  refine gf_X2_15 C0 hH dX2_sideOf_20 ?_
  refine lv_iload_n zx zb dX2_sideOf_23 rfl (lv_at hl 1 rfl) ?_
  refine al_3 C0 hH (by omega) (by omega) dX2_sideOf_24 ?_
  refine bi_sub zx zb dX2_sideOf_25 ?_
  refine bi_mul zx zb dX2_sideOf_26 ?_
  refine lv_aload_n zx zb dX2_sideOf_27 rfl (lv_at hl 0 rfl) ?_
  refine gf_X2_15 C0 hH dX2_sideOf_28 ?_
  refine lv_iload_n zx zb dX2_sideOf_31 rfl (lv_at hl 2 rfl) ?_
  refine al_3 C0 hH (by omega) (by omega) dX2_sideOf_32 ?_
  refine lv_aload_n zx zb dX2_sideOf_33 rfl (lv_at hl 0 rfl) ?_
  refine gf_X2_15 C0 hH dX2_sideOf_34 ?_
  refine lv_iload_n zx zb dX2_sideOf_37 rfl (lv_at hl 1 rfl) ?_
  refine al_3 C0 hH (by omega) (by omega) dX2_sideOf_38 ?_
  refine bi_sub zx zb dX2_sideOf_39 ?_
  refine lv_aload_n zx zb dX2_sideOf_40 rfl (lv_at hl 0 rfl) ?_
  refine gf_X2_9 C0 hH dX2_sideOf_41 ?_
  refine lv_iload_n zx zb dX2_sideOf_44 rfl (lv_at hl 3 rfl) ?_
  refine al_2 C0 hH (by omega) (by omega) dX2_sideOf_45 ?_
  refine lv_aload_n zx zb dX2_sideOf_46 rfl (lv_at hl 0 rfl) ?_
  refine gf_X2_9 C0 hH dX2_sideOf_47 ?_
  refine lv_iload_n zx zb dX2_sideOf_50 rfl (lv_at hl 1 rfl) ?_
  refine al_2 C0 hH (by omega) (by omega) dX2_sideOf_51 ?_
  refine bi_sub zx zb dX2_sideOf_52 ?_
  refine bi_mul zx zb dX2_sideOf_53 ?_
  refine csI (rest := []) (As := [.int (iI (((S 2 b) - (S 2 a)) * ((S 3 y) - (S 3 a)))), .int (iI (((S 3 b) - (S 3 a)) * ((S 2 y) - (S 2 a))))]) C0 hH (c_J6_compare_7cf53 l g S (((S 2 b) - (S 2 a)) * ((S 3 y) - (S 3 a))) (((S 3 b) - (S 3 a)) * ((S 2 y) - (S 2 a))) (by omega) (by omega)) kw_X2_58 ky_J6_compare_7cf53 ⟨Nat.le_of_ble_eq_true rfl, Nat.le_of_ble_eq_true rfl⟩ ⟨Nat.zero_le _, Nat.zero_le _⟩ rfl hl.1 rfl (Nat.le_of_ble_eq_true rfl) dX2_sideOf_54 (fun H locs hH => ?_)
  exact retI C0 hret hlk hH (by rfl) (rfl) dX2_sideOf_57
set_option maxRecDepth 100000 in
set_option maxHeartbeats 4000000 in
theorem c_X2_straddles (l : Launch) (g : gT) (S : gSt) (a b y t : Int) (ha : 0 ≤ a ∧ a < 24) (hb : 0 ≤ b ∧ b < 24) (hc : 0 ≤ y ∧ y < 24) (hd : 0 ≤ t ∧ t < 24) (hC : okC (S 2) (S 3)) : MetG l g yX2_straddles cX2_straddles 5 (some .boolean) 2 44 [.ref (g.1 1), .int (iI a), .int (iI b), .int (iI y), .int (iI t)] S (some (.int (iI (if stB (S 2) (S 3) a b y t = true then 1 else 0)))) S := by
  refine bodyG (by decide +kernel) (Nat.le_of_ble_eq_true rfl) ?_
  intro p e s m args below meth c ls C0 hret hlk hl hH
  have zx := C0.1
  have zb := C0.2.1
  have hl : lv_has ls 5 [(0, .ref (g.1 1)), (1, .int (iI a)), (2, .int (iI b)), (3, .int (iI y)), (4, .int (iI t))] := hl
  obtain ⟨H, hHe⟩ : ∃ H : Heap, H = s.heap := ⟨_, rfl⟩
  rw [show (Hp g S s s.heap []) = Hp g S s H [] by rw [hHe]] at hH
  rw [← hHe]
  have m1 := mul_b (sdI_b (S 2) (S 3) a b y) (sdI_b (S 2) (S 3) a b t) (by decide) (by decide)
  refine lv_aload_n zx zb dX2_straddles_0 rfl (lv_at hl 0 rfl) ?_
  refine lv_iload_n zx zb dX2_straddles_1 rfl (lv_at hl 1 rfl) ?_
  refine lv_iload_n zx zb dX2_straddles_2 rfl (lv_at hl 2 rfl) ?_
  refine lv_iload_n zx zb dX2_straddles_3 rfl (lv_at hl 3 rfl) ?_
  refine cvI (rest := []) (As := [.int (iI a), .int (iI b), .int (iI y)]) (b := g.1 1) C0 hH (c_X2_sideOf l g S a b y (by omega) (by omega) (by omega) (by omega)) kw_X2_54 ky_X2_sideOf ⟨Nat.le_of_ble_eq_true rfl, Nat.le_of_ble_eq_true rfl⟩ ⟨Nat.zero_le _, Nat.zero_le _⟩ 1 rfl rfl rfl hl.1 rfl (Nat.le_of_ble_eq_true rfl) dX2_straddles_4 (fun H locs hH => ?_)
  refine lv_aload_n zx zb dX2_straddles_7 rfl (lv_at hl 0 rfl) ?_
  refine lv_iload_n zx zb dX2_straddles_8 rfl (lv_at hl 1 rfl) ?_
  refine lv_iload_n zx zb dX2_straddles_9 rfl (lv_at hl 2 rfl) ?_
  refine lv_iload zx zb dX2_straddles_10 (lv_at hl 4 rfl) ?_
  refine cvI (rest := [.int (iI (sdI (S 2) (S 3) a b y))]) (As := [.int (iI a), .int (iI b), .int (iI t)]) (b := g.1 1) C0 hH (c_X2_sideOf l g S a b t (by omega) (by omega) (by omega) (by omega)) kw_X2_54 ky_X2_sideOf ⟨Nat.le_of_ble_eq_true rfl, Nat.le_of_ble_eq_true rfl⟩ ⟨Nat.zero_le _, Nat.zero_le _⟩ 1 rfl rfl rfl hl.1 rfl (Nat.le_of_ble_eq_true rfl) dX2_straddles_12 (fun H locs hH => ?_)
  refine bi_mul zx zb dX2_straddles_15 ?_
  refine bz_gt (tgt := 23) zx zb dX2_straddles_16 (by decide) ⟨by omega, by omega⟩ (fun zq16 => ?_) (fun zq16 => ?_)
  · refine bi_const (n := 0) zx zb dX2_straddles_23 ?_
    exact retZ C0 hret hlk hH (by unfold stB; first | (rw [if_pos (by simp; omega)]; done) | (rw [if_neg (by simp; omega)]; done)) (by omega) (rfl) dX2_straddles_24
  · refine bi_const (n := 1) zx zb dX2_straddles_19 ?_
    refine lv_goto (tgt := 24) zx zb dX2_straddles_20 (by decide) ?_
    exact retZ C0 hret hlk hH (by unfold stB; first | (rw [if_pos (by simp; omega)]; done) | (rw [if_neg (by simp; omega)]; done)) (by omega) (rfl) dX2_straddles_24
set_option maxRecDepth 100000 in
set_option maxHeartbeats 4000000 in
theorem c_X2_meet (l : Launch) (g : gT) (S : gSt) (a b y t : Int) (ha : 0 ≤ a ∧ a < 24) (hb : 0 ≤ b ∧ b < 24) (hc : 0 ≤ y ∧ y < 24) (hd : 0 ≤ t ∧ t < 24) (hC : okC (S 2) (S 3)) : MetG l g yX2_meet cX2_meet 5 (some .boolean) 3 68 [.ref (g.1 1), .int (iI a), .int (iI b), .int (iI y), .int (iI t)] S (some (.int (iI (if meB (S 2) (S 3) a b y t = true then 1 else 0)))) S := by
  refine bodyG (by decide +kernel) (Nat.le_of_ble_eq_true rfl) ?_
  intro p e s m args below meth c ls C0 hret hlk hl hH
  have zx := C0.1
  have zb := C0.2.1
  have hl : lv_has ls 5 [(0, .ref (g.1 1)), (1, .int (iI a)), (2, .int (iI b)), (3, .int (iI y)), (4, .int (iI t))] := hl
  obtain ⟨H, hHe⟩ : ∃ H : Heap, H = s.heap := ⟨_, rfl⟩
  rw [show (Hp g S s s.heap []) = Hp g S s H [] by rw [hHe]] at hH
  rw [← hHe]
  have ca := hC a ha.1 ha.2
  have cb := hC b hb.1 hb.2
  have cc1 := hC y hc.1 hc.2
  have cd := hC t hd.1 hd.2
  refine lv_aload_n zx zb dX2_meet_0 rfl (lv_at hl 0 rfl) ?_
  refine gf_X2_9 C0 hH dX2_meet_1 ?_
  refine lv_iload_n zx zb dX2_meet_4 rfl (lv_at hl 1 rfl) ?_
  refine al_2 C0 hH (by omega) (by omega) dX2_meet_5 ?_
  refine lv_aload_n zx zb dX2_meet_6 rfl (lv_at hl 0 rfl) ?_
  refine gf_X2_9 C0 hH dX2_meet_7 ?_
  refine lv_iload_n zx zb dX2_meet_10 rfl (lv_at hl 2 rfl) ?_
  refine al_2 C0 hH (by omega) (by omega) dX2_meet_11 ?_
  refine lv_aload_n zx zb dX2_meet_12 rfl (lv_at hl 0 rfl) ?_
  refine gf_X2_9 C0 hH dX2_meet_13 ?_
  refine lv_iload_n zx zb dX2_meet_16 rfl (lv_at hl 3 rfl) ?_
  refine al_2 C0 hH (by omega) (by omega) dX2_meet_17 ?_
  refine lv_aload_n zx zb dX2_meet_18 rfl (lv_at hl 0 rfl) ?_
  refine gf_X2_9 C0 hH dX2_meet_19 ?_
  refine lv_iload zx zb dX2_meet_22 (lv_at hl 4 rfl) ?_
  refine al_2 C0 hH (by omega) (by omega) dX2_meet_24 ?_
  refine csI (rest := []) (As := [.int (iI (S 2 a)), .int (iI (S 2 b)), .int (iI (S 2 y)), .int (iI (S 2 t))]) C0 hH (c_X2_spansOverlap l g S (S 2 a) (S 2 b) (S 2 y) (S 2 t) (by omega) (by omega) (by omega) (by omega)) kw_X2_41 ky_X2_spansOverlap ⟨Nat.le_of_ble_eq_true rfl, Nat.le_of_ble_eq_true rfl⟩ ⟨Nat.zero_le _, Nat.zero_le _⟩ rfl hl.1 rfl (Nat.le_of_ble_eq_true rfl) dX2_meet_25 (fun H locs hH => ?_)
  have hq28 := brg (spB (S 2 a) (S 2 b) (S 2 y) (S 2 t))
  refine bz_eq (tgt := 90) zx zb dX2_meet_28 (by decide) ⟨by omega, by omega⟩ (fun zq28 => ?_) (fun zq28 => ?_)
  · refine bi_const (n := 0) zx zb dX2_meet_90 ?_
    exact retZ C0 hret hlk hH (by unfold meB; first | (rw [b0 zq28]; simp; done) | (rw [b0 zq59]; simp; done) | (rw [b0 zq71]; simp; done) | (rw [b0 zq83]; simp; done) | (rw [b1 zq28, b1 zq59, b1 zq71, b1 zq83]; rfl)) (by omega) (rfl) dX2_meet_91
  · refine lv_aload_n zx zb dX2_meet_31 rfl (lv_at hl 0 rfl) ?_
    refine gf_X2_15 C0 hH dX2_meet_32 ?_
    refine lv_iload_n zx zb dX2_meet_35 rfl (lv_at hl 1 rfl) ?_
    refine al_3 C0 hH (by omega) (by omega) dX2_meet_36 ?_
    refine lv_aload_n zx zb dX2_meet_37 rfl (lv_at hl 0 rfl) ?_
    refine gf_X2_15 C0 hH dX2_meet_38 ?_
    refine lv_iload_n zx zb dX2_meet_41 rfl (lv_at hl 2 rfl) ?_
    refine al_3 C0 hH (by omega) (by omega) dX2_meet_42 ?_
    refine lv_aload_n zx zb dX2_meet_43 rfl (lv_at hl 0 rfl) ?_
    refine gf_X2_15 C0 hH dX2_meet_44 ?_
    refine lv_iload_n zx zb dX2_meet_47 rfl (lv_at hl 3 rfl) ?_
    refine al_3 C0 hH (by omega) (by omega) dX2_meet_48 ?_
    refine lv_aload_n zx zb dX2_meet_49 rfl (lv_at hl 0 rfl) ?_
    refine gf_X2_15 C0 hH dX2_meet_50 ?_
    refine lv_iload zx zb dX2_meet_53 (lv_at hl 4 rfl) ?_
    refine al_3 C0 hH (by omega) (by omega) dX2_meet_55 ?_
    refine csI (rest := []) (As := [.int (iI (S 3 a)), .int (iI (S 3 b)), .int (iI (S 3 y)), .int (iI (S 3 t))]) C0 hH (c_X2_spansOverlap l g S (S 3 a) (S 3 b) (S 3 y) (S 3 t) (by omega) (by omega) (by omega) (by omega)) kw_X2_41 ky_X2_spansOverlap ⟨Nat.le_of_ble_eq_true rfl, Nat.le_of_ble_eq_true rfl⟩ ⟨Nat.zero_le _, Nat.zero_le _⟩ rfl hl.1 rfl (Nat.le_of_ble_eq_true rfl) dX2_meet_56 (fun H locs hH => ?_)
    have hq59 := brg (spB (S 3 a) (S 3 b) (S 3 y) (S 3 t))
    refine bz_eq (tgt := 90) zx zb dX2_meet_59 (by decide) ⟨by omega, by omega⟩ (fun zq59 => ?_) (fun zq59 => ?_)
    · refine bi_const (n := 0) zx zb dX2_meet_90 ?_
      exact retZ C0 hret hlk hH (by unfold meB; first | (rw [b0 zq28]; simp; done) | (rw [b0 zq59]; simp; done) | (rw [b0 zq71]; simp; done) | (rw [b0 zq83]; simp; done) | (rw [b1 zq28, b1 zq59, b1 zq71, b1 zq83]; rfl)) (by omega) (rfl) dX2_meet_91
    · refine lv_aload_n zx zb dX2_meet_62 rfl (lv_at hl 0 rfl) ?_
      refine lv_iload_n zx zb dX2_meet_63 rfl (lv_at hl 1 rfl) ?_
      refine lv_iload_n zx zb dX2_meet_64 rfl (lv_at hl 2 rfl) ?_
      refine lv_iload_n zx zb dX2_meet_65 rfl (lv_at hl 3 rfl) ?_
      refine lv_iload zx zb dX2_meet_66 (lv_at hl 4 rfl) ?_
      refine cvI (rest := []) (As := [.int (iI a), .int (iI b), .int (iI y), .int (iI t)]) (b := g.1 1) C0 hH (c_X2_straddles l g S a b y t (by omega) (by omega) (by omega) (by omega) (by omega)) kw_X2_45 ky_X2_straddles ⟨Nat.le_of_ble_eq_true rfl, Nat.le_of_ble_eq_true rfl⟩ ⟨Nat.zero_le _, Nat.zero_le _⟩ 1 rfl rfl rfl hl.1 rfl (Nat.le_of_ble_eq_true rfl) dX2_meet_68 (fun H locs hH => ?_)
      have hq71 := brg (stB (S 2) (S 3) a b y t)
      refine bz_eq (tgt := 90) zx zb dX2_meet_71 (by decide) ⟨by omega, by omega⟩ (fun zq71 => ?_) (fun zq71 => ?_)
      · refine bi_const (n := 0) zx zb dX2_meet_90 ?_
        exact retZ C0 hret hlk hH (by unfold meB; first | (rw [b0 zq28]; simp; done) | (rw [b0 zq59]; simp; done) | (rw [b0 zq71]; simp; done) | (rw [b0 zq83]; simp; done) | (rw [b1 zq28, b1 zq59, b1 zq71, b1 zq83]; rfl)) (by omega) (rfl) dX2_meet_91
      · refine lv_aload_n zx zb dX2_meet_74 rfl (lv_at hl 0 rfl) ?_
        refine lv_iload_n zx zb dX2_meet_75 rfl (lv_at hl 3 rfl) ?_
        refine lv_iload zx zb dX2_meet_76 (lv_at hl 4 rfl) ?_
        refine lv_iload_n zx zb dX2_meet_78 rfl (lv_at hl 1 rfl) ?_
        refine lv_iload_n zx zb dX2_meet_79 rfl (lv_at hl 2 rfl) ?_
        refine cvI (rest := []) (As := [.int (iI y), .int (iI t), .int (iI a), .int (iI b)]) (b := g.1 1) C0 hH (c_X2_straddles l g S y t a b (by omega) (by omega) (by omega) (by omega) (by omega)) kw_X2_45 ky_X2_straddles ⟨Nat.le_of_ble_eq_true rfl, Nat.le_of_ble_eq_true rfl⟩ ⟨Nat.zero_le _, Nat.zero_le _⟩ 1 rfl rfl rfl hl.1 rfl (Nat.le_of_ble_eq_true rfl) dX2_meet_80 (fun H locs hH => ?_)
        have hq83 := brg (stB (S 2) (S 3) y t a b)
        refine bz_eq (tgt := 90) zx zb dX2_meet_83 (by decide) ⟨by omega, by omega⟩ (fun zq83 => ?_) (fun zq83 => ?_)
        · refine bi_const (n := 0) zx zb dX2_meet_90 ?_
          exact retZ C0 hret hlk hH (by unfold meB; first | (rw [b0 zq28]; simp; done) | (rw [b0 zq59]; simp; done) | (rw [b0 zq71]; simp; done) | (rw [b0 zq83]; simp; done) | (rw [b1 zq28, b1 zq59, b1 zq71, b1 zq83]; rfl)) (by omega) (rfl) dX2_meet_91
        · refine bi_const (n := 1) zx zb dX2_meet_86 ?_
          refine lv_goto (tgt := 91) zx zb dX2_meet_87 (by decide) ?_
          exact retZ C0 hret hlk hH (by unfold meB; first | (rw [b0 zq28]; simp; done) | (rw [b0 zq59]; simp; done) | (rw [b0 zq71]; simp; done) | (rw [b0 zq83]; simp; done) | (rw [b1 zq28, b1 zq59, b1 zq71, b1 zq83]; rfl)) (by omega) (rfl) dX2_meet_91
end
section
set_option maxRecDepth 100000 in
set_option maxHeartbeats 4000000 in
theorem c_X5_place (l : Launch) (g : gT) (S : gSt) (f k : Int)  : MetG l g yX5_place cX5_place 2 (some .int) 0 0 [.int (iI f), .int (iI k)] S (some (.int (iI (10 * f + k)))) S := by
  refine bodyG (by decide +kernel) (Nat.le_of_ble_eq_true rfl) ?_
  intro p e s m args below meth c ls C0 hret hlk hl hH
  have zx := C0.1
  have zb := C0.2.1
  have hl : lv_has ls 2 [(0, .int (iI f)), (1, .int (iI k))] := hl
  obtain ⟨H, hHe⟩ : ∃ H : Heap, H = s.heap := ⟨_, rfl⟩
  rw [show (Hp g S s s.heap []) = Hp g S s H [] by rw [hHe]] at hH
  rw [← hHe]
  refine lv_iload_n zx zb dX5_place_0 rfl (lv_at hl 0 rfl) ?_
  refine bi_bip (n := 10) zx zb dX5_place_1 (by decide) ?_
  refine bi_mul zx zb dX5_place_3 ?_
  refine lv_iload_n zx zb dX5_place_4 rfl (lv_at hl 1 rfl) ?_
  refine bi_add zx zb dX5_place_5 ?_
  exact retI C0 hret hlk hH (by omega) (rfl) dX5_place_6
set_option maxRecDepth 100000 in
set_option maxHeartbeats 4000000 in
theorem c_X5_appendFigure (l : Launch) (g : gT) (S : gSt) (hn : 0 ≤ S 4 0 ∧ S 4 0 < 8) : MetG l g yX5_appendFigure cX5_appendFigure 2 (some .int) 0 0 [.ref (g.1 4)] S (some (.int (iI (S 4 0)))) (st S 4 0 (S 4 0 + 1)) := by
  refine bodyG (by decide +kernel) (Nat.le_of_ble_eq_true rfl) ?_
  intro p e s m args below meth c ls C0 hret hlk hl hH
  have zx := C0.1
  have zb := C0.2.1
  have hl : lv_has ls 2 [(0, .ref (g.1 4))] := hl
  obtain ⟨H, hHe⟩ : ∃ H : Heap, H = s.heap := ⟨_, rfl⟩
  rw [show (Hp g S s s.heap []) = Hp g S s H [] by rw [hHe]] at hH
  rw [← hHe]
  refine lv_aload_n zx zb dX5_appendFigure_0 rfl (lv_at hl 0 rfl) ?_
  refine gf_X5_21 C0 hH dX5_appendFigure_1 ?_
  refine lv_istore_n (lv' := [(1, .int (iI (S 4 0))), (0, .ref (g.1 4))]) zx zb dX5_appendFigure_4 rfl hl (by decide) rfl (fun ls hl => ?_)
  refine lv_iload_n zx zb dX5_appendFigure_5 rfl (lv_at hl 0 rfl) ?_
  refine bi_bip (n := 8) zx zb dX5_appendFigure_6 (by decide) ?_
  refine bq_ge (tgt := 21) zx zb dX5_appendFigure_8 (by decide) ⟨by omega, by omega⟩ ⟨by omega, by omega⟩ (fun zq8 => ?_) (fun zq8 => ?_)
  · exact absurd zq8 (by omega)
  · refine lv_aload_n zx zb dX5_appendFigure_11 rfl (lv_at hl 1 rfl) ?_
    refine lv_dup zx zb dX5_appendFigure_12 rfl ?_
    refine gf_X5_21 C0 hH dX5_appendFigure_13 ?_
    refine bi_const (n := 1) zx zb dX5_appendFigure_16 ?_
    refine bi_add zx zb dX5_appendFigure_17 ?_
    refine pf_X5_21 C0 hH dX5_appendFigure_18 (fun H locs hH => ?_)
    refine lv_iload_n zx zb dX5_appendFigure_21 rfl (lv_at hl 0 rfl) ?_
    exact retI C0 hret hlk hH (by rfl) (rfl) dX5_appendFigure_22
set_option maxRecDepth 100000 in
set_option maxHeartbeats 4000000 in
theorem c_X5_hasStar (l : Launch) (g : gT) (S : gSt) (f z : Int) (hf : 0 ≤ f ∧ f < 8) (hz : 0 ≤ z ∧ z < 24) (hN : okN (S 5)) (hE : okE (S 5) (S 6)) (hO : okE (S 5) (S 7)) : MetG l g yX5_hasStar cX5_hasStar 5 (some .boolean) 1 21 [.ref (g.1 4), .int (iI f), .int (iI z)] S (some (.int (iI (if hsB (S 5) (S 6) (S 7) f z = true then 1 else 0)))) S := by
  refine bodyG (by decide +kernel) (Nat.le_of_ble_eq_true rfl) ?_
  intro p e s m args below meth c ls C0 hret hlk hl hH
  have zx := C0.1
  have zb := C0.2.1
  have hl : lv_has ls 5 [(0, .ref (g.1 4)), (1, .int (iI f)), (2, .int (iI z))] := hl
  have L2 : ∀ (μ : Nat) (i : Int), (S 5 f - i).toNat = μ → (0 ≤ i ∧ i ≤ S 5 f) → (hsB (S 5) (S 6) (S 7) f z = exF (hsQ (S 6) (S 7) z) (S 5 f - i).toNat (10 * f + i)) → ∀ (H : Heap) (locs : List Loc), Hp g S s H locs → ∀ ls : Array Slot, lv_has ls 5 [(0, .ref (g.1 4)), (1, .int (iI f)), (2, .int (iI z)), (3, .int (iI i))] → W p l e { frames := 1, cells := 0, slots := 0, locals := 21 } s m args below meth c H locs 0 0 (MQ below (RetG g (some (.int (iI (if hsB (S 5) (S 6) (S 7) f z = true then 1 else 0)))) S) args s 0 0 (oA g)) (F0 m 2 ls []) := by
    refine lpN (fun μ2 ih2 => ?_)
    intro i hμ2 hi hR H locs hH ls hl
    have hn := hN f hf.1 hf.2
    refine lv_iload_n zx zb dX5_hasStar_2 rfl (lv_at hl 3 rfl) ?_
    refine lv_aload_n zx zb dX5_hasStar_3 rfl (lv_at hl 0 rfl) ?_
    refine gf_X5_9 C0 hH dX5_hasStar_4 ?_
    refine lv_iload_n zx zb dX5_hasStar_7 rfl (lv_at hl 1 rfl) ?_
    refine al_5 C0 hH (by omega) (by omega) dX5_hasStar_8 ?_
    refine bq_ge (tgt := 49) zx zb dX5_hasStar_9 (by decide) ⟨by omega, by omega⟩ ⟨by omega, by omega⟩ (fun zq9 => ?_) (fun zq9 => ?_)
    · refine bi_const (n := 0) zx zb dX5_hasStar_49 ?_
      exact retZ C0 hret hlk hH (by rw [hR, exF_e2 (by omega)]; rfl) (by omega) (rfl) dX5_hasStar_50
    · have he := hE f i hf.1 hf.2 (by omega) (by omega)
      have ho := hO f i hf.1 hf.2 (by omega) (by omega)
      refine lv_iload_n zx zb dX5_hasStar_12 rfl (lv_at hl 1 rfl) ?_
      refine lv_iload_n zx zb dX5_hasStar_13 rfl (lv_at hl 3 rfl) ?_
      refine csI (rest := []) (As := [.int (iI f), .int (iI i)]) C0 hH (c_X5_place l g S f i) kw_X5_25 ky_X5_place ⟨Nat.le_of_ble_eq_true rfl, Nat.le_of_ble_eq_true rfl⟩ ⟨Nat.zero_le _, Nat.zero_le _⟩ rfl hl.1 rfl (Nat.le_of_ble_eq_true rfl) dX5_hasStar_14 (fun H locs hH => ?_)
      refine lv_istore (lv' := [(4, .int (iI (10 * f + i))), (0, .ref (g.1 4)), (1, .int (iI f)), (2, .int (iI z)), (3, .int (iI i))]) zx zb dX5_hasStar_17 hl (by decide) rfl (fun ls hl => ?_)
      refine lv_aload_n zx zb dX5_hasStar_19 rfl (lv_at hl 1 rfl) ?_
      refine gf_X5_15 C0 hH dX5_hasStar_20 ?_
      refine lv_iload zx zb dX5_hasStar_23 (lv_at hl 0 rfl) ?_
      refine al_6 C0 hH (by omega) (by omega) dX5_hasStar_25 ?_
      refine lv_iload_n zx zb dX5_hasStar_26 rfl (lv_at hl 3 rfl) ?_
      refine bq_eq (tgt := 41) zx zb dX5_hasStar_27 (by decide) ⟨by omega, by omega⟩ ⟨by omega, by omega⟩ (fun zq27 => ?_) (fun zq27 => ?_)
      · refine bi_const (n := 1) zx zb dX5_hasStar_41 ?_
        exact retZ C0 hret hlk hH (by rw [hR, exF_f zq9 (by first | (simp [hsQ, zq27]; done) | (simp [hsQ, zq38]; done))]; rfl) (by omega) (rfl) dX5_hasStar_42
      · refine lv_aload_n zx zb dX5_hasStar_30 rfl (lv_at hl 1 rfl) ?_
        refine gf_X5_18 C0 hH dX5_hasStar_31 ?_
        refine lv_iload zx zb dX5_hasStar_34 (lv_at hl 0 rfl) ?_
        refine al_7 C0 hH (by omega) (by omega) dX5_hasStar_36 ?_
        refine lv_iload_n zx zb dX5_hasStar_37 rfl (lv_at hl 3 rfl) ?_
        refine bq_ne (tgt := 43) zx zb dX5_hasStar_38 (by decide) ⟨by omega, by omega⟩ ⟨by omega, by omega⟩ (fun zq38 => ?_) (fun zq38 => ?_)
        · refine bi_inc (k0 := 4) (n := 1) (lv' := [(3, .int (iI (i + 1))), (4, .int (iI (10 * f + i))), (0, .ref (g.1 4)), (1, .int (iI f)), (2, .int (iI z))]) zx zb dX5_hasStar_43 hl rfl (by decide) rfl (fun ls hl => ?_)
          refine lv_goto (tgt := 2) zx zb dX5_hasStar_46 (by decide) ?_
          exact ih2 ((S 5 f - (i + 1)).toNat) (by omega) (i + 1) rfl (by omega) (by rw [hR, exF_t zq9 (by simp [hsQ, zq27, zq38]), Int.add_assoc]) _ _ hH ls (lv_sub hl [2, 3, 4, 0] rfl)
        · refine bi_const (n := 1) zx zb dX5_hasStar_41 ?_
          exact retZ C0 hret hlk hH (by rw [hR, exF_f zq9 (by first | (simp [hsQ, zq27]; done) | (simp [hsQ, zq38]; done))]; rfl) (by omega) (rfl) dX5_hasStar_42
  obtain ⟨H, hHe⟩ : ∃ H : Heap, H = s.heap := ⟨_, rfl⟩
  rw [show (Hp g S s s.heap []) = Hp g S s H [] by rw [hHe]] at hH
  rw [← hHe]
  have hn := hN f hf.1 hf.2
  refine bi_const (n := 0) zx zb dX5_hasStar_0 ?_
  refine lv_istore_n (lv' := [(3, .int (iI 0)), (0, .ref (g.1 4)), (1, .int (iI f)), (2, .int (iI z))]) zx zb dX5_hasStar_1 rfl hl (by decide) rfl (fun ls hl => ?_)
  exact L2 _ 0 rfl (by omega) (by unfold hsB; rw [Int.sub_zero, Int.add_zero]) _ _ hH ls (lv_sub hl [1, 2, 3, 0] rfl)
set_option maxRecDepth 100000 in
set_option maxHeartbeats 4000000 in
theorem c_X5_joins (l : Launch) (g : gT) (S : gSt) (f a b : Int) (hf : 0 ≤ f ∧ f < 8) (ha : 0 ≤ a ∧ a < 24) (hb : 0 ≤ b ∧ b < 24) (hN : okN (S 5)) (hE : okE (S 5) (S 6)) (hO : okE (S 5) (S 7)) : MetG l g yX5_joins cX5_joins 8 (some .boolean) 1 21 [.ref (g.1 4), .int (iI f), .int (iI a), .int (iI b)] S (some (.int (iI (if jnB (S 5) (S 6) (S 7) f a b = true then 1 else 0)))) S := by
  refine bodyG (by decide +kernel) (Nat.le_of_ble_eq_true rfl) ?_
  intro p e s m args below meth c ls C0 hret hlk hl hH
  have zx := C0.1
  have zb := C0.2.1
  have hl : lv_has ls 8 [(0, .ref (g.1 4)), (1, .int (iI f)), (2, .int (iI a)), (3, .int (iI b))] := hl
  have L3 : ∀ (μ : Nat) (i : Int), (S 5 f - i).toNat = μ → (0 ≤ i ∧ i ≤ S 5 f) → (jnB (S 5) (S 6) (S 7) f a b = exF (jnQ (S 6) (S 7) a b) (S 5 f - i).toNat (10 * f + i)) → ∀ (H : Heap) (locs : List Loc), Hp g S s H locs → ∀ ls : Array Slot, lv_has ls 8 [(0, .ref (g.1 4)), (1, .int (iI f)), (2, .int (iI a)), (3, .int (iI b)), (4, .int (iI i))] → W p l e { frames := 1, cells := 0, slots := 0, locals := 21 } s m args below meth c H locs 0 0 (MQ below (RetG g (some (.int (iI (if jnB (S 5) (S 6) (S 7) f a b = true then 1 else 0)))) S) args s 0 0 (oA g)) (F0 m 3 ls []) := by
    refine lpN (fun μ3 ih3 => ?_)
    intro i hμ3 hi hR H locs hH ls hl
    have hn := hN f hf.1 hf.2
    refine lv_iload zx zb dX5_joins_3 (lv_at hl 4 rfl) ?_
    refine lv_aload_n zx zb dX5_joins_5 rfl (lv_at hl 0 rfl) ?_
    refine gf_X5_9 C0 hH dX5_joins_6 ?_
    refine lv_iload_n zx zb dX5_joins_9 rfl (lv_at hl 1 rfl) ?_
    refine al_5 C0 hH (by omega) (by omega) dX5_joins_10 ?_
    refine bq_ge (tgt := 98) zx zb dX5_joins_11 (by decide) ⟨by omega, by omega⟩ ⟨by omega, by omega⟩ (fun zq11 => ?_) (fun zq11 => ?_)
    · refine bi_const (n := 0) zx zb dX5_joins_98 ?_
      exact retZ C0 hret hlk hH (by rw [hR, exF_e2 (by omega)]; rfl) (by omega) (rfl) dX5_joins_99
    · have he := hE f i hf.1 hf.2 (by omega) (by omega)
      have ho := hO f i hf.1 hf.2 (by omega) (by omega)
      refine lv_iload_n zx zb dX5_joins_14 rfl (lv_at hl 1 rfl) ?_
      refine lv_iload zx zb dX5_joins_15 (lv_at hl 4 rfl) ?_
      refine csI (rest := []) (As := [.int (iI f), .int (iI i)]) C0 hH (c_X5_place l g S f i) kw_X5_25 ky_X5_place ⟨Nat.le_of_ble_eq_true rfl, Nat.le_of_ble_eq_true rfl⟩ ⟨Nat.zero_le _, Nat.zero_le _⟩ rfl hl.1 rfl (Nat.le_of_ble_eq_true rfl) dX5_joins_17 (fun H locs hH => ?_)
      refine lv_istore (lv' := [(5, .int (iI (10 * f + i))), (0, .ref (g.1 4)), (1, .int (iI f)), (2, .int (iI a)), (3, .int (iI b)), (4, .int (iI i))]) zx zb dX5_joins_20 hl (by decide) rfl (fun ls hl => ?_)
      refine lv_aload_n zx zb dX5_joins_22 rfl (lv_at hl 1 rfl) ?_
      refine gf_X5_15 C0 hH dX5_joins_23 ?_
      refine lv_iload zx zb dX5_joins_26 (lv_at hl 0 rfl) ?_
      refine al_6 C0 hH (by omega) (by omega) dX5_joins_28 ?_
      refine lv_iload_n zx zb dX5_joins_29 rfl (lv_at hl 3 rfl) ?_
      refine bq_ne (tgt := 48) zx zb dX5_joins_30 (by decide) ⟨by omega, by omega⟩ ⟨by omega, by omega⟩ (fun zq30 => ?_) (fun zq30 => ?_)
      · refine bi_const (n := 0) zx zb dX5_joins_48 ?_
        refine lv_istore (lv' := [(6, .int (iI 0)), (5, .int (iI (10 * f + i))), (0, .ref (g.1 4)), (1, .int (iI f)), (2, .int (iI a)), (3, .int (iI b)), (4, .int (iI i))]) zx zb dX5_joins_49 hl (by decide) rfl (fun ls hl => ?_)
        refine lv_aload_n zx zb dX5_joins_51 rfl (lv_at hl 2 rfl) ?_
        refine gf_X5_15 C0 hH dX5_joins_52 ?_
        refine lv_iload zx zb dX5_joins_55 (lv_at hl 1 rfl) ?_
        refine al_6 C0 hH (by omega) (by omega) dX5_joins_57 ?_
        refine lv_iload_n zx zb dX5_joins_58 rfl (lv_at hl 5 rfl) ?_
        refine bq_ne (tgt := 77) zx zb dX5_joins_59 (by decide) ⟨by omega, by omega⟩ ⟨by omega, by omega⟩ (fun zq59 => ?_) (fun zq59 => ?_)
        · refine bi_const (n := 0) zx zb dX5_joins_77 ?_
          refine lv_istore (lv' := [(7, .int (iI 0)), (6, .int (iI 0)), (5, .int (iI (10 * f + i))), (0, .ref (g.1 4)), (1, .int (iI f)), (2, .int (iI a)), (3, .int (iI b)), (4, .int (iI i))]) zx zb dX5_joins_78 hl (by decide) rfl (fun ls hl => ?_)
          refine lv_iload zx zb dX5_joins_80 (lv_at hl 1 rfl) ?_
          refine bz_ne (tgt := 90) zx zb dX5_joins_82 (by decide) ⟨by omega, by omega⟩ (fun zq82 => ?_) (fun zq82 => ?_)
          · exact absurd zq82 (by decide)
          · refine lv_iload zx zb dX5_joins_85 (lv_at hl 0 rfl) ?_
            refine bz_eq (tgt := 92) zx zb dX5_joins_87 (by decide) ⟨by omega, by omega⟩ (fun zq87 => ?_) (fun zq87 => ?_)
            · refine bi_inc (k0 := 7) (n := 1) (lv' := [(4, .int (iI (i + 1))), (7, .int (iI 0)), (6, .int (iI 0)), (5, .int (iI (10 * f + i))), (0, .ref (g.1 4)), (1, .int (iI f)), (2, .int (iI a)), (3, .int (iI b))]) zx zb dX5_joins_92 hl rfl (by decide) rfl (fun ls hl => ?_)
              refine lv_goto (tgt := 3) zx zb dX5_joins_95 (by decide) ?_
              exact ih3 ((S 5 f - (i + 1)).toNat) (by omega) (i + 1) rfl (by omega) (by rw [hR, exF_t zq11 (by simp only [jnQ, *]; simp_all), Int.add_assoc]) _ _ hH ls (lv_sub hl [4, 5, 6, 7, 0] rfl)
            · exact absurd zq87 (by decide)
        · refine lv_aload_n zx zb dX5_joins_62 rfl (lv_at hl 2 rfl) ?_
          refine gf_X5_18 C0 hH dX5_joins_63 ?_
          refine lv_iload zx zb dX5_joins_66 (lv_at hl 1 rfl) ?_
          refine al_7 C0 hH (by omega) (by omega) dX5_joins_68 ?_
          refine lv_iload_n zx zb dX5_joins_69 rfl (lv_at hl 4 rfl) ?_
          refine bq_ne (tgt := 77) zx zb dX5_joins_70 (by decide) ⟨by omega, by omega⟩ ⟨by omega, by omega⟩ (fun zq70 => ?_) (fun zq70 => ?_)
          · refine bi_const (n := 0) zx zb dX5_joins_77 ?_
            refine lv_istore (lv' := [(7, .int (iI 0)), (6, .int (iI 0)), (5, .int (iI (10 * f + i))), (0, .ref (g.1 4)), (1, .int (iI f)), (2, .int (iI a)), (3, .int (iI b)), (4, .int (iI i))]) zx zb dX5_joins_78 hl (by decide) rfl (fun ls hl => ?_)
            refine lv_iload zx zb dX5_joins_80 (lv_at hl 1 rfl) ?_
            refine bz_ne (tgt := 90) zx zb dX5_joins_82 (by decide) ⟨by omega, by omega⟩ (fun zq82 => ?_) (fun zq82 => ?_)
            · exact absurd zq82 (by decide)
            · refine lv_iload zx zb dX5_joins_85 (lv_at hl 0 rfl) ?_
              refine bz_eq (tgt := 92) zx zb dX5_joins_87 (by decide) ⟨by omega, by omega⟩ (fun zq87 => ?_) (fun zq87 => ?_)
              · refine bi_inc (k0 := 7) (n := 1) (lv' := [(4, .int (iI (i + 1))), (7, .int (iI 0)), (6, .int (iI 0)), (5, .int (iI (10 * f + i))), (0, .ref (g.1 4)), (1, .int (iI f)), (2, .int (iI a)), (3, .int (iI b))]) zx zb dX5_joins_92 hl rfl (by decide) rfl (fun ls hl => ?_)
                refine lv_goto (tgt := 3) zx zb dX5_joins_95 (by decide) ?_
                exact ih3 ((S 5 f - (i + 1)).toNat) (by omega) (i + 1) rfl (by omega) (by rw [hR, exF_t zq11 (by simp only [jnQ, *]; simp_all), Int.add_assoc]) _ _ hH ls (lv_sub hl [4, 5, 6, 7, 0] rfl)
              · exact absurd zq87 (by decide)
          · refine bi_const (n := 1) zx zb dX5_joins_73 ?_
            refine lv_goto (tgt := 78) zx zb dX5_joins_74 (by decide) ?_
            refine lv_istore (lv' := [(7, .int (iI 1)), (6, .int (iI 0)), (5, .int (iI (10 * f + i))), (0, .ref (g.1 4)), (1, .int (iI f)), (2, .int (iI a)), (3, .int (iI b)), (4, .int (iI i))]) zx zb dX5_joins_78 hl (by decide) rfl (fun ls hl => ?_)
            refine lv_iload zx zb dX5_joins_80 (lv_at hl 1 rfl) ?_
            refine bz_ne (tgt := 90) zx zb dX5_joins_82 (by decide) ⟨by omega, by omega⟩ (fun zq82 => ?_) (fun zq82 => ?_)
            · exact absurd zq82 (by decide)
            · refine lv_iload zx zb dX5_joins_85 (lv_at hl 0 rfl) ?_
              refine bz_eq (tgt := 92) zx zb dX5_joins_87 (by decide) ⟨by omega, by omega⟩ (fun zq87 => ?_) (fun zq87 => ?_)
              · exact absurd zq87 (by decide)
              · refine bi_const (n := 1) zx zb dX5_joins_90 ?_
                exact retZ C0 hret hlk hH (by first | exact absurd rfl zq82 | exact absurd rfl zq85 | (rw [hR, exF_f zq11 (by simp_all [jnQ])]; rfl)) (by omega) (rfl) dX5_joins_91
      · refine lv_aload_n zx zb dX5_joins_33 rfl (lv_at hl 1 rfl) ?_
        refine gf_X5_18 C0 hH dX5_joins_34 ?_
        refine lv_iload zx zb dX5_joins_37 (lv_at hl 0 rfl) ?_
        refine al_7 C0 hH (by omega) (by omega) dX5_joins_39 ?_
        refine lv_iload_n zx zb dX5_joins_40 rfl (lv_at hl 4 rfl) ?_
        refine bq_ne (tgt := 48) zx zb dX5_joins_41 (by decide) ⟨by omega, by omega⟩ ⟨by omega, by omega⟩ (fun zq41 => ?_) (fun zq41 => ?_)
        · refine bi_const (n := 0) zx zb dX5_joins_48 ?_
          refine lv_istore (lv' := [(6, .int (iI 0)), (5, .int (iI (10 * f + i))), (0, .ref (g.1 4)), (1, .int (iI f)), (2, .int (iI a)), (3, .int (iI b)), (4, .int (iI i))]) zx zb dX5_joins_49 hl (by decide) rfl (fun ls hl => ?_)
          refine lv_aload_n zx zb dX5_joins_51 rfl (lv_at hl 2 rfl) ?_
          refine gf_X5_15 C0 hH dX5_joins_52 ?_
          refine lv_iload zx zb dX5_joins_55 (lv_at hl 1 rfl) ?_
          refine al_6 C0 hH (by omega) (by omega) dX5_joins_57 ?_
          refine lv_iload_n zx zb dX5_joins_58 rfl (lv_at hl 5 rfl) ?_
          refine bq_ne (tgt := 77) zx zb dX5_joins_59 (by decide) ⟨by omega, by omega⟩ ⟨by omega, by omega⟩ (fun zq59 => ?_) (fun zq59 => ?_)
          · refine bi_const (n := 0) zx zb dX5_joins_77 ?_
            refine lv_istore (lv' := [(7, .int (iI 0)), (6, .int (iI 0)), (5, .int (iI (10 * f + i))), (0, .ref (g.1 4)), (1, .int (iI f)), (2, .int (iI a)), (3, .int (iI b)), (4, .int (iI i))]) zx zb dX5_joins_78 hl (by decide) rfl (fun ls hl => ?_)
            refine lv_iload zx zb dX5_joins_80 (lv_at hl 1 rfl) ?_
            refine bz_ne (tgt := 90) zx zb dX5_joins_82 (by decide) ⟨by omega, by omega⟩ (fun zq82 => ?_) (fun zq82 => ?_)
            · exact absurd zq82 (by decide)
            · refine lv_iload zx zb dX5_joins_85 (lv_at hl 0 rfl) ?_
              refine bz_eq (tgt := 92) zx zb dX5_joins_87 (by decide) ⟨by omega, by omega⟩ (fun zq87 => ?_) (fun zq87 => ?_)
              · refine bi_inc (k0 := 7) (n := 1) (lv' := [(4, .int (iI (i + 1))), (7, .int (iI 0)), (6, .int (iI 0)), (5, .int (iI (10 * f + i))), (0, .ref (g.1 4)), (1, .int (iI f)), (2, .int (iI a)), (3, .int (iI b))]) zx zb dX5_joins_92 hl rfl (by decide) rfl (fun ls hl => ?_)
                refine lv_goto (tgt := 3) zx zb dX5_joins_95 (by decide) ?_
                exact ih3 ((S 5 f - (i + 1)).toNat) (by omega) (i + 1) rfl (by omega) (by rw [hR, exF_t zq11 (by simp only [jnQ, *]; simp_all), Int.add_assoc]) _ _ hH ls (lv_sub hl [4, 5, 6, 7, 0] rfl)
              · exact absurd zq87 (by decide)
          · refine lv_aload_n zx zb dX5_joins_62 rfl (lv_at hl 2 rfl) ?_
            refine gf_X5_18 C0 hH dX5_joins_63 ?_
            refine lv_iload zx zb dX5_joins_66 (lv_at hl 1 rfl) ?_
            refine al_7 C0 hH (by omega) (by omega) dX5_joins_68 ?_
            refine lv_iload_n zx zb dX5_joins_69 rfl (lv_at hl 4 rfl) ?_
            refine bq_ne (tgt := 77) zx zb dX5_joins_70 (by decide) ⟨by omega, by omega⟩ ⟨by omega, by omega⟩ (fun zq70 => ?_) (fun zq70 => ?_)
            · refine bi_const (n := 0) zx zb dX5_joins_77 ?_
              refine lv_istore (lv' := [(7, .int (iI 0)), (6, .int (iI 0)), (5, .int (iI (10 * f + i))), (0, .ref (g.1 4)), (1, .int (iI f)), (2, .int (iI a)), (3, .int (iI b)), (4, .int (iI i))]) zx zb dX5_joins_78 hl (by decide) rfl (fun ls hl => ?_)
              refine lv_iload zx zb dX5_joins_80 (lv_at hl 1 rfl) ?_
              refine bz_ne (tgt := 90) zx zb dX5_joins_82 (by decide) ⟨by omega, by omega⟩ (fun zq82 => ?_) (fun zq82 => ?_)
              · exact absurd zq82 (by decide)
              · refine lv_iload zx zb dX5_joins_85 (lv_at hl 0 rfl) ?_
                refine bz_eq (tgt := 92) zx zb dX5_joins_87 (by decide) ⟨by omega, by omega⟩ (fun zq87 => ?_) (fun zq87 => ?_)
                · refine bi_inc (k0 := 7) (n := 1) (lv' := [(4, .int (iI (i + 1))), (7, .int (iI 0)), (6, .int (iI 0)), (5, .int (iI (10 * f + i))), (0, .ref (g.1 4)), (1, .int (iI f)), (2, .int (iI a)), (3, .int (iI b))]) zx zb dX5_joins_92 hl rfl (by decide) rfl (fun ls hl => ?_)
                  refine lv_goto (tgt := 3) zx zb dX5_joins_95 (by decide) ?_
                  exact ih3 ((S 5 f - (i + 1)).toNat) (by omega) (i + 1) rfl (by omega) (by rw [hR, exF_t zq11 (by simp only [jnQ, *]; simp_all), Int.add_assoc]) _ _ hH ls (lv_sub hl [4, 5, 6, 7, 0] rfl)
                · exact absurd zq87 (by decide)
            · refine bi_const (n := 1) zx zb dX5_joins_73 ?_
              refine lv_goto (tgt := 78) zx zb dX5_joins_74 (by decide) ?_
              refine lv_istore (lv' := [(7, .int (iI 1)), (6, .int (iI 0)), (5, .int (iI (10 * f + i))), (0, .ref (g.1 4)), (1, .int (iI f)), (2, .int (iI a)), (3, .int (iI b)), (4, .int (iI i))]) zx zb dX5_joins_78 hl (by decide) rfl (fun ls hl => ?_)
              refine lv_iload zx zb dX5_joins_80 (lv_at hl 1 rfl) ?_
              refine bz_ne (tgt := 90) zx zb dX5_joins_82 (by decide) ⟨by omega, by omega⟩ (fun zq82 => ?_) (fun zq82 => ?_)
              · exact absurd zq82 (by decide)
              · refine lv_iload zx zb dX5_joins_85 (lv_at hl 0 rfl) ?_
                refine bz_eq (tgt := 92) zx zb dX5_joins_87 (by decide) ⟨by omega, by omega⟩ (fun zq87 => ?_) (fun zq87 => ?_)
                · exact absurd zq87 (by decide)
                · refine bi_const (n := 1) zx zb dX5_joins_90 ?_
                  exact retZ C0 hret hlk hH (by first | exact absurd rfl zq82 | exact absurd rfl zq85 | (rw [hR, exF_f zq11 (by simp_all [jnQ])]; rfl)) (by omega) (rfl) dX5_joins_91
        · refine bi_const (n := 1) zx zb dX5_joins_44 ?_
          refine lv_goto (tgt := 49) zx zb dX5_joins_45 (by decide) ?_
          refine lv_istore (lv' := [(6, .int (iI 1)), (5, .int (iI (10 * f + i))), (0, .ref (g.1 4)), (1, .int (iI f)), (2, .int (iI a)), (3, .int (iI b)), (4, .int (iI i))]) zx zb dX5_joins_49 hl (by decide) rfl (fun ls hl => ?_)
          refine lv_aload_n zx zb dX5_joins_51 rfl (lv_at hl 2 rfl) ?_
          refine gf_X5_15 C0 hH dX5_joins_52 ?_
          refine lv_iload zx zb dX5_joins_55 (lv_at hl 1 rfl) ?_
          refine al_6 C0 hH (by omega) (by omega) dX5_joins_57 ?_
          refine lv_iload_n zx zb dX5_joins_58 rfl (lv_at hl 5 rfl) ?_
          refine bq_ne (tgt := 77) zx zb dX5_joins_59 (by decide) ⟨by omega, by omega⟩ ⟨by omega, by omega⟩ (fun zq59 => ?_) (fun zq59 => ?_)
          · refine bi_const (n := 0) zx zb dX5_joins_77 ?_
            refine lv_istore (lv' := [(7, .int (iI 0)), (6, .int (iI 1)), (5, .int (iI (10 * f + i))), (0, .ref (g.1 4)), (1, .int (iI f)), (2, .int (iI a)), (3, .int (iI b)), (4, .int (iI i))]) zx zb dX5_joins_78 hl (by decide) rfl (fun ls hl => ?_)
            refine lv_iload zx zb dX5_joins_80 (lv_at hl 1 rfl) ?_
            refine bz_ne (tgt := 90) zx zb dX5_joins_82 (by decide) ⟨by omega, by omega⟩ (fun zq82 => ?_) (fun zq82 => ?_)
            · refine bi_const (n := 1) zx zb dX5_joins_90 ?_
              exact retZ C0 hret hlk hH (by first | exact absurd rfl zq82 | exact absurd rfl zq85 | (rw [hR, exF_f zq11 (by simp_all [jnQ])]; rfl)) (by omega) (rfl) dX5_joins_91
            · exact absurd zq82 (by decide)
          · refine lv_aload_n zx zb dX5_joins_62 rfl (lv_at hl 2 rfl) ?_
            refine gf_X5_18 C0 hH dX5_joins_63 ?_
            refine lv_iload zx zb dX5_joins_66 (lv_at hl 1 rfl) ?_
            refine al_7 C0 hH (by omega) (by omega) dX5_joins_68 ?_
            refine lv_iload_n zx zb dX5_joins_69 rfl (lv_at hl 4 rfl) ?_
            refine bq_ne (tgt := 77) zx zb dX5_joins_70 (by decide) ⟨by omega, by omega⟩ ⟨by omega, by omega⟩ (fun zq70 => ?_) (fun zq70 => ?_)
            · refine bi_const (n := 0) zx zb dX5_joins_77 ?_
              refine lv_istore (lv' := [(7, .int (iI 0)), (6, .int (iI 1)), (5, .int (iI (10 * f + i))), (0, .ref (g.1 4)), (1, .int (iI f)), (2, .int (iI a)), (3, .int (iI b)), (4, .int (iI i))]) zx zb dX5_joins_78 hl (by decide) rfl (fun ls hl => ?_)
              refine lv_iload zx zb dX5_joins_80 (lv_at hl 1 rfl) ?_
              refine bz_ne (tgt := 90) zx zb dX5_joins_82 (by decide) ⟨by omega, by omega⟩ (fun zq82 => ?_) (fun zq82 => ?_)
              · refine bi_const (n := 1) zx zb dX5_joins_90 ?_
                exact retZ C0 hret hlk hH (by first | exact absurd rfl zq82 | exact absurd rfl zq85 | (rw [hR, exF_f zq11 (by simp_all [jnQ])]; rfl)) (by omega) (rfl) dX5_joins_91
              · exact absurd zq82 (by decide)
            · refine bi_const (n := 1) zx zb dX5_joins_73 ?_
              refine lv_goto (tgt := 78) zx zb dX5_joins_74 (by decide) ?_
              refine lv_istore (lv' := [(7, .int (iI 1)), (6, .int (iI 1)), (5, .int (iI (10 * f + i))), (0, .ref (g.1 4)), (1, .int (iI f)), (2, .int (iI a)), (3, .int (iI b)), (4, .int (iI i))]) zx zb dX5_joins_78 hl (by decide) rfl (fun ls hl => ?_)
              refine lv_iload zx zb dX5_joins_80 (lv_at hl 1 rfl) ?_
              refine bz_ne (tgt := 90) zx zb dX5_joins_82 (by decide) ⟨by omega, by omega⟩ (fun zq82 => ?_) (fun zq82 => ?_)
              · refine bi_const (n := 1) zx zb dX5_joins_90 ?_
                exact retZ C0 hret hlk hH (by first | exact absurd rfl zq82 | exact absurd rfl zq85 | (rw [hR, exF_f zq11 (by simp_all [jnQ])]; rfl)) (by omega) (rfl) dX5_joins_91
              · exact absurd zq82 (by decide)
  obtain ⟨H, hHe⟩ : ∃ H : Heap, H = s.heap := ⟨_, rfl⟩
  rw [show (Hp g S s s.heap []) = Hp g S s H [] by rw [hHe]] at hH
  rw [← hHe]
  have hn := hN f hf.1 hf.2
  refine bi_const (n := 0) zx zb dX5_joins_0 ?_
  refine lv_istore (lv' := [(4, .int (iI 0)), (0, .ref (g.1 4)), (1, .int (iI f)), (2, .int (iI a)), (3, .int (iI b))]) zx zb dX5_joins_1 hl (by decide) rfl (fun ls hl => ?_)
  exact L3 _ 0 rfl (by omega) (by unfold jnB; rw [Int.sub_zero, Int.add_zero]) _ _ hH ls (lv_sub hl [1, 2, 3, 4, 0] rfl)
set_option maxRecDepth 100000 in
set_option maxHeartbeats 4000000 in
theorem c_X5_ownerOf (l : Launch) (g : gT) (S : gSt) (z : Int) (hz : 0 ≤ z ∧ z < 24) (hnf : 0 ≤ S 4 0 ∧ S 4 0 ≤ 8) (hN : okN (S 5)) (hE : okE (S 5) (S 6)) (hO : okE (S 5) (S 7)) : MetG l g yX5_ownerOf cX5_ownerOf 3 (some .int) 2 45 [.ref (g.1 4), .int (iI z)] S (some (.int (iI (owI (S 4 0) (S 5) (S 6) (S 7) z)))) S := by
  refine bodyG (by decide +kernel) (Nat.le_of_ble_eq_true rfl) ?_
  intro p e s m args below meth c ls C0 hret hlk hl hH
  have zx := C0.1
  have zb := C0.2.1
  have hl : lv_has ls 3 [(0, .ref (g.1 4)), (1, .int (iI z))] := hl
  have L2 : ∀ (μ : Nat) (i : Int), (S 4 0 - i).toNat = μ → (0 ≤ i ∧ i ≤ S 4 0) → (owI (S 4 0) (S 5) (S 6) (S 7) z = fdF (fun f => hsB (S 5) (S 6) (S 7) f z) (S 4 0 - i).toNat i) → ∀ (H : Heap) (locs : List Loc), Hp g S s H locs → ∀ ls : Array Slot, lv_has ls 3 [(0, .ref (g.1 4)), (1, .int (iI z)), (2, .int (iI i))] → W p l e { frames := 2, cells := 0, slots := 0, locals := 45 } s m args below meth c H locs 0 0 (MQ below (RetG g (some (.int (iI (owI (S 4 0) (S 5) (S 6) (S 7) z)))) S) args s 0 0 (oA g)) (F0 m 2 ls []) := by
    refine lpN (fun μ2 ih2 => ?_)
    intro i hμ2 hi hR H locs hH ls hl
    refine lv_iload_n zx zb dX5_ownerOf_2 rfl (lv_at hl 2 rfl) ?_
    refine lv_aload_n zx zb dX5_ownerOf_3 rfl (lv_at hl 0 rfl) ?_
    refine gf_X5_21 C0 hH dX5_ownerOf_4 ?_
    refine bq_ge (tgt := 27) zx zb dX5_ownerOf_7 (by decide) ⟨by omega, by omega⟩ ⟨by omega, by omega⟩ (fun zq7 => ?_) (fun zq7 => ?_)
    · refine bi_const (n := (-1)) zx zb dX5_ownerOf_27 ?_
      exact retI C0 hret hlk hH (by rw [hR, fdF_e (by omega)]) (rfl) dX5_ownerOf_28
    · refine lv_aload_n zx zb dX5_ownerOf_10 rfl (lv_at hl 0 rfl) ?_
      refine lv_iload_n zx zb dX5_ownerOf_11 rfl (lv_at hl 2 rfl) ?_
      refine lv_iload_n zx zb dX5_ownerOf_12 rfl (lv_at hl 1 rfl) ?_
      refine cvI (rest := []) (As := [.int (iI i), .int (iI z)]) (b := g.1 4) C0 hH (c_X5_hasStar l g S i z (by omega) (by omega) (hN) (hE) (hO)) kw_X5_29 ky_X5_hasStar ⟨Nat.le_of_ble_eq_true rfl, Nat.le_of_ble_eq_true rfl⟩ ⟨Nat.zero_le _, Nat.zero_le _⟩ 4 rfl rfl rfl hl.1 rfl (Nat.le_of_ble_eq_true rfl) dX5_ownerOf_13 (fun H locs hH => ?_)
      have hb16 := brg (hsB (S 5) (S 6) (S 7) i z)
      refine bz_eq (tgt := 21) zx zb dX5_ownerOf_16 (by decide) ⟨by omega, by omega⟩ (fun zq16 => ?_) (fun zq16 => ?_)
      · refine bi_inc (k0 := 2) (n := 1) (lv' := [(2, .int (iI (i + 1))), (0, .ref (g.1 4)), (1, .int (iI z))]) zx zb dX5_ownerOf_21 hl rfl (by decide) rfl (fun ls hl => ?_)
        refine lv_goto (tgt := 2) zx zb dX5_ownerOf_24 (by decide) ?_
        exact ih2 ((S 4 0 - (i + 1)).toNat) (by omega) (i + 1) rfl (by omega) (by rw [hR, fdF_t zq7 (b0 zq16)]) _ _ hH ls (lv_sub hl [1, 2, 0] rfl)
      · refine lv_iload_n zx zb dX5_ownerOf_19 rfl (lv_at hl 2 rfl) ?_
        exact retI C0 hret hlk hH (by rw [hR, fdF_f zq7 (b1 zq16)]) (rfl) dX5_ownerOf_20
  obtain ⟨H, hHe⟩ : ∃ H : Heap, H = s.heap := ⟨_, rfl⟩
  rw [show (Hp g S s s.heap []) = Hp g S s H [] by rw [hHe]] at hH
  rw [← hHe]
  refine bi_const (n := 0) zx zb dX5_ownerOf_0 ?_
  refine lv_istore_n (lv' := [(2, .int (iI 0)), (0, .ref (g.1 4)), (1, .int (iI z))]) zx zb dX5_ownerOf_1 rfl hl (by decide) rfl (fun ls hl => ?_)
  exact L2 _ 0 rfl (by omega) (by unfold owI; rw [Int.sub_zero]) _ _ hH ls (lv_sub hl [1, 2, 0] rfl)
set_option maxRecDepth 100000 in
set_option maxHeartbeats 4000000 in
theorem c_X5_isOfAnother (l : Launch) (g : gT) (S : gSt) (f z : Int) (hf : 0 ≤ f ∧ f < 8) (hz : 0 ≤ z ∧ z < 24) (hnf : 0 ≤ S 4 0 ∧ S 4 0 ≤ 8) (hN : okN (S 5)) (hE : okE (S 5) (S 6)) (hO : okE (S 5) (S 7)) : MetG l g yX5_isOfAnother cX5_isOfAnother 4 (some .boolean) 3 67 [.ref (g.1 4), .int (iI f), .int (iI z)] S (some (.int (iI (if owI (S 4 0) (S 5) (S 6) (S 7) z ≠ -1 ∧ owI (S 4 0) (S 5) (S 6) (S 7) z ≠ f then 1 else 0)))) S := by
  refine bodyG (by decide +kernel) (Nat.le_of_ble_eq_true rfl) ?_
  intro p e s m args below meth c ls C0 hret hlk hl hH
  have zx := C0.1
  have zb := C0.2.1
  have hl : lv_has ls 4 [(0, .ref (g.1 4)), (1, .int (iI f)), (2, .int (iI z))] := hl
  obtain ⟨H, hHe⟩ : ∃ H : Heap, H = s.heap := ⟨_, rfl⟩
  rw [show (Hp g S s s.heap []) = Hp g S s H [] by rw [hHe]] at hH
  rw [← hHe]
  have hob := owI_b (nf := S 4 0) (n := S 5) (e := S 6) (o := S 7) (z := z) hnf.1
  refine lv_aload_n zx zb dX5_isOfAnother_0 rfl (lv_at hl 0 rfl) ?_
  refine lv_iload_n zx zb dX5_isOfAnother_1 rfl (lv_at hl 2 rfl) ?_
  refine cvI (rest := []) (As := [.int (iI z)]) (b := g.1 4) C0 hH (c_X5_ownerOf l g S z (by omega) (by omega) (hN) (hE) (hO)) kw_X5_33 ky_X5_ownerOf ⟨Nat.le_of_ble_eq_true rfl, Nat.le_of_ble_eq_true rfl⟩ ⟨Nat.zero_le _, Nat.zero_le _⟩ 4 rfl rfl rfl hl.1 rfl (Nat.le_of_ble_eq_true rfl) dX5_isOfAnother_2 (fun H locs hH => ?_)
  refine lv_istore_n (lv' := [(3, .int (iI (owI (S 4 0) (S 5) (S 6) (S 7) z))), (0, .ref (g.1 4)), (1, .int (iI f)), (2, .int (iI z))]) zx zb dX5_isOfAnother_5 rfl hl (by decide) rfl (fun ls hl => ?_)
  refine lv_iload_n zx zb dX5_isOfAnother_6 rfl (lv_at hl 0 rfl) ?_
  refine bi_const (n := (-1)) zx zb dX5_isOfAnother_7 ?_
  refine bq_eq (tgt := 20) zx zb dX5_isOfAnother_8 (by decide) ⟨by omega, by omega⟩ ⟨by omega, by omega⟩ (fun zq8 => ?_) (fun zq8 => ?_)
  · refine bi_const (n := 0) zx zb dX5_isOfAnother_20 ?_
    exact retZ C0 hret hlk hH (by first | (rw [if_pos ⟨zq8, zq13⟩]; done) | (rw [if_neg (fun h => h.1 zq8)]; done) | (rw [if_neg (fun h => h.2 zq13)]; done)) (by omega) (rfl) dX5_isOfAnother_21
  · refine lv_iload_n zx zb dX5_isOfAnother_11 rfl (lv_at hl 0 rfl) ?_
    refine lv_iload_n zx zb dX5_isOfAnother_12 rfl (lv_at hl 2 rfl) ?_
    refine bq_eq (tgt := 20) zx zb dX5_isOfAnother_13 (by decide) ⟨by omega, by omega⟩ ⟨by omega, by omega⟩ (fun zq13 => ?_) (fun zq13 => ?_)
    · refine bi_const (n := 0) zx zb dX5_isOfAnother_20 ?_
      exact retZ C0 hret hlk hH (by first | (rw [if_pos ⟨zq8, zq13⟩]; done) | (rw [if_neg (fun h => h.1 zq8)]; done) | (rw [if_neg (fun h => h.2 zq13)]; done)) (by omega) (rfl) dX5_isOfAnother_21
    · refine bi_const (n := 1) zx zb dX5_isOfAnother_16 ?_
      refine lv_goto (tgt := 21) zx zb dX5_isOfAnother_17 (by decide) ?_
      exact retZ C0 hret hlk hH (by first | (rw [if_pos ⟨zq8, zq13⟩]; done) | (rw [if_neg (fun h => h.1 zq8)]; done) | (rw [if_neg (fun h => h.2 zq13)]; done)) (by omega) (rfl) dX5_isOfAnother_21
set_option maxRecDepth 100000 in
set_option maxHeartbeats 4000000 in
theorem c_X5_insert (l : Launch) (g : gT) (S : gSt) (f k a b : Int) (hf : 0 ≤ f ∧ f < 8) (hk : 0 ≤ k ∧ k ≤ S 5 f) (hc : S 5 f < 10) : MetG l g yX5_insert cX5_insert 7 none 1 21 [.ref (g.1 4), .int (iI f), .int (iI k), .int (iI a), .int (iI b)] S none (lnIn S 5 6 7 f k a b) := by
  refine bodyG (by decide +kernel) (Nat.le_of_ble_eq_true rfl) ?_
  intro p e s m args below meth c ls C0 hret hlk hl hH
  have zx := C0.1
  have zb := C0.2.1
  have hl : lv_has ls 7 [(0, .ref (g.1 4)), (1, .int (iI f)), (2, .int (iI k)), (3, .int (iI a)), (4, .int (iI b))] := hl
  have L34 : ∀ (μ : Nat) (j : Int), (j - (10 * f + k)).toNat = μ → (10 * f + k ≤ j ∧ j ≤ 10 * f + S 5 f) → ∀ (H : Heap) (locs : List Loc), Hp g (s2 S 6 7 (shA (S 6) j (10 * f + S 5 f)) (shA (S 7) j (10 * f + S 5 f))) s H locs → ∀ ls : Array Slot, lv_has ls 7 [(0, .ref (g.1 4)), (1, .int (iI f)), (2, .int (iI k)), (3, .int (iI a)), (4, .int (iI b)), (5, .int (iI (S 5 f))), (6, .int (iI j))] → W p l e { frames := 1, cells := 0, slots := 0, locals := 21 } s m args below meth c H locs 0 0 (MQ below (RetG g none (lnIn S 5 6 7 f k a b)) args s 0 0 (oA g)) (F0 m 34 ls []) := by
    refine lpN (fun μ34 ih34 => ?_)
    intro j hμ34 hj H locs hH ls hl
    refine lv_iload zx zb dX5_insert_34 (lv_at hl 6 rfl) ?_
    refine lv_iload_n zx zb dX5_insert_36 rfl (lv_at hl 1 rfl) ?_
    refine lv_iload_n zx zb dX5_insert_37 rfl (lv_at hl 2 rfl) ?_
    refine csI (rest := [.int (iI j)]) (As := [.int (iI f), .int (iI k)]) C0 hH (c_X5_place l g (s2 S 6 7 (shA (S 6) j (10 * f + S 5 f)) (shA (S 7) j (10 * f + S 5 f))) f k) kw_X5_25 ky_X5_place ⟨Nat.le_of_ble_eq_true rfl, Nat.le_of_ble_eq_true rfl⟩ ⟨Nat.zero_le _, Nat.zero_le _⟩ rfl hl.1 rfl (Nat.le_of_ble_eq_true rfl) dX5_insert_38 (fun H locs hH => ?_)
    refine bq_le (tgt := 82) zx zb dX5_insert_41 (by decide) ⟨by omega, by omega⟩ ⟨by omega, by omega⟩ (fun zq41 => ?_) (fun zq41 => ?_)
    · refine lv_aload_n zx zb dX5_insert_82 rfl (lv_at hl 0 rfl) ?_
      refine gf_X5_15 C0 hH dX5_insert_83 ?_
      refine lv_iload_n zx zb dX5_insert_86 rfl (lv_at hl 1 rfl) ?_
      refine lv_iload_n zx zb dX5_insert_87 rfl (lv_at hl 2 rfl) ?_
      refine csI (rest := [.ref (g.1 6)]) (As := [.int (iI f), .int (iI k)]) C0 hH (c_X5_place l g (s2 S 6 7 (shA (S 6) j (10 * f + S 5 f)) (shA (S 7) j (10 * f + S 5 f))) f k) kw_X5_25 ky_X5_place ⟨Nat.le_of_ble_eq_true rfl, Nat.le_of_ble_eq_true rfl⟩ ⟨Nat.zero_le _, Nat.zero_le _⟩ rfl hl.1 rfl (Nat.le_of_ble_eq_true rfl) dX5_insert_88 (fun H locs hH => ?_)
      refine lv_iload_n zx zb dX5_insert_91 rfl (lv_at hl 3 rfl) ?_
      refine as_6 C0 hH (by omega) (by omega) dX5_insert_92 (fun H locs hH => ?_)
      refine lv_aload_n zx zb dX5_insert_93 rfl (lv_at hl 0 rfl) ?_
      refine gf_X5_18 C0 hH dX5_insert_94 ?_
      refine lv_iload_n zx zb dX5_insert_97 rfl (lv_at hl 1 rfl) ?_
      refine lv_iload_n zx zb dX5_insert_98 rfl (lv_at hl 2 rfl) ?_
      refine csI (rest := [.ref (g.1 7)]) (As := [.int (iI f), .int (iI k)]) C0 hH (c_X5_place l g (st (s2 S 6 7 (shA (S 6) j (10 * f + S 5 f)) (shA (S 7) j (10 * f + S 5 f))) 6 (10 * f + k) a) f k) kw_X5_25 ky_X5_place ⟨Nat.le_of_ble_eq_true rfl, Nat.le_of_ble_eq_true rfl⟩ ⟨Nat.zero_le _, Nat.zero_le _⟩ rfl hl.1 rfl (Nat.le_of_ble_eq_true rfl) dX5_insert_99 (fun H locs hH => ?_)
      refine lv_iload zx zb dX5_insert_102 (lv_at hl 4 rfl) ?_
      refine as_7 C0 hH (by omega) (by omega) dX5_insert_104 (fun H locs hH => ?_)
      refine lv_aload_n zx zb dX5_insert_105 rfl (lv_at hl 0 rfl) ?_
      refine gf_X5_9 C0 hH dX5_insert_106 ?_
      refine lv_iload_n zx zb dX5_insert_109 rfl (lv_at hl 1 rfl) ?_
      refine lv_iload zx zb dX5_insert_110 (lv_at hl 5 rfl) ?_
      refine bi_const (n := 1) zx zb dX5_insert_112 ?_
      refine bi_add zx zb dX5_insert_113 ?_
      refine as_5 C0 hH (by omega) (by omega) dX5_insert_114 (fun H locs hH => ?_)
      exact retV C0 hret hlk hH (by rw [show j = 10 * f + k by omega]; unfold lnIn; rw [s2_st1 (by decide), s2_st2]; rfl) dX5_insert_115
    · refine lv_aload_n zx zb dX5_insert_44 rfl (lv_at hl 0 rfl) ?_
      refine gf_X5_15 C0 hH dX5_insert_45 ?_
      refine lv_iload zx zb dX5_insert_48 (lv_at hl 6 rfl) ?_
      refine lv_aload_n zx zb dX5_insert_50 rfl (lv_at hl 0 rfl) ?_
      refine gf_X5_15 C0 hH dX5_insert_51 ?_
      refine lv_iload zx zb dX5_insert_54 (lv_at hl 6 rfl) ?_
      refine bi_const (n := 1) zx zb dX5_insert_56 ?_
      refine bi_sub zx zb dX5_insert_57 ?_
      refine al_6 C0 hH (by omega) (by omega) dX5_insert_58 ?_
      show W p l e _ s m args below meth c H _ _ _ _ (F0 m 59 ls [.int (iI ((s2 S 6 7 (shA (S 6) j (10 * f + S 5 f)) (shA (S 7) j (10 * f + S 5 f))) 6 (j - 1))), .int (iI j), .ref (g.1 6)])
      refine as_6 C0 hH (by omega) (by omega) dX5_insert_59 (fun H locs hH => ?_)
      refine lv_aload_n zx zb dX5_insert_60 rfl (lv_at hl 0 rfl) ?_
      refine gf_X5_18 C0 hH dX5_insert_61 ?_
      refine lv_iload zx zb dX5_insert_64 (lv_at hl 6 rfl) ?_
      refine lv_aload_n zx zb dX5_insert_66 rfl (lv_at hl 0 rfl) ?_
      refine gf_X5_18 C0 hH dX5_insert_67 ?_
      refine lv_iload zx zb dX5_insert_70 (lv_at hl 6 rfl) ?_
      refine bi_const (n := 1) zx zb dX5_insert_72 ?_
      refine bi_sub zx zb dX5_insert_73 ?_
      refine al_7 C0 hH (by omega) (by omega) dX5_insert_74 ?_
      show W p l e _ s m args below meth c H _ _ _ _ (F0 m 75 ls [.int (iI ((s2 S 6 7 (shA (S 6) j (10 * f + S 5 f)) (shA (S 7) j (10 * f + S 5 f))) 7 (j - 1))), .int (iI j), .ref (g.1 7)])
      refine as_7 C0 hH (by omega) (by omega) dX5_insert_75 (fun H locs hH => ?_)
      refine bi_inc (k0 := 6) (n := (-1)) (lv' := [(6, .int (iI (j + (-1)))), (0, .ref (g.1 4)), (1, .int (iI f)), (2, .int (iI k)), (3, .int (iI a)), (4, .int (iI b)), (5, .int (iI (S 5 f)))]) zx zb dX5_insert_76 hl rfl (by decide) rfl (fun ls hl => ?_)
      refine lv_goto (tgt := 34) zx zb dX5_insert_79 (by decide) ?_
      exact ih34 (((j + (-1)) - (10 * f + k)).toNat) (by omega) (j + (-1)) rfl (by omega) _ _ (hp_eq (by exact (sh_step (by decide) (S 6) (S 7) hj.2)) hH) ls (lv_sub hl [1, 2, 3, 4, 5, 6, 0] rfl)
  obtain ⟨H, hHe⟩ : ∃ H : Heap, H = s.heap := ⟨_, rfl⟩
  rw [show (Hp g S s s.heap []) = Hp g S s H [] by rw [hHe]] at hH
  rw [← hHe]
  refine lv_aload_n zx zb dX5_insert_0 rfl (lv_at hl 0 rfl) ?_
  refine gf_X5_9 C0 hH dX5_insert_1 ?_
  refine lv_iload_n zx zb dX5_insert_4 rfl (lv_at hl 1 rfl) ?_
  refine al_5 C0 hH (by omega) (by omega) dX5_insert_5 ?_
  refine lv_istore (lv' := [(5, .int (iI (S 5 f))), (0, .ref (g.1 4)), (1, .int (iI f)), (2, .int (iI k)), (3, .int (iI a)), (4, .int (iI b))]) zx zb dX5_insert_6 hl (by decide) rfl (fun ls hl => ?_)
  refine lv_iload_n zx zb dX5_insert_8 rfl (lv_at hl 3 rfl) ?_
  refine bz_lt (tgt := 25) zx zb dX5_insert_9 (by decide) ⟨by omega, by omega⟩ (fun zq9 => ?_) (fun zq9 => ?_)
  · exact absurd zq9 (by omega)
  · refine lv_iload_n zx zb dX5_insert_12 rfl (lv_at hl 3 rfl) ?_
    refine lv_iload zx zb dX5_insert_13 (lv_at hl 0 rfl) ?_
    refine bq_gt (tgt := 25) zx zb dX5_insert_15 (by decide) ⟨by omega, by omega⟩ ⟨by omega, by omega⟩ (fun zq15 => ?_) (fun zq15 => ?_)
    · exact absurd zq15 (by omega)
    · refine lv_iload zx zb dX5_insert_18 (lv_at hl 0 rfl) ?_
      refine bi_bip (n := 10) zx zb dX5_insert_20 (by decide) ?_
      refine bq_lt (tgt := 26) zx zb dX5_insert_22 (by decide) ⟨by omega, by omega⟩ ⟨by omega, by omega⟩ (fun zq22 => ?_) (fun zq22 => ?_)
      · refine lv_iload_n zx zb dX5_insert_26 rfl (lv_at hl 2 rfl) ?_
        refine lv_iload zx zb dX5_insert_27 (lv_at hl 0 rfl) ?_
        refine csI (rest := []) (As := [.int (iI f), .int (iI (S 5 f))]) C0 hH (c_X5_place l g S f (S 5 f)) kw_X5_25 ky_X5_place ⟨Nat.le_of_ble_eq_true rfl, Nat.le_of_ble_eq_true rfl⟩ ⟨Nat.zero_le _, Nat.zero_le _⟩ rfl hl.1 rfl (Nat.le_of_ble_eq_true rfl) dX5_insert_29 (fun H locs hH => ?_)
        refine lv_istore (lv' := [(6, .int (iI (10 * f + (S 5 f)))), (5, .int (iI (S 5 f))), (0, .ref (g.1 4)), (1, .int (iI f)), (2, .int (iI k)), (3, .int (iI a)), (4, .int (iI b))]) zx zb dX5_insert_32 hl (by decide) rfl (fun ls hl => ?_)
        exact L34 _ (10 * f + (S 5 f)) rfl (by omega) _ _ (hp_eq (by rw [shA_0, shA_0, s2_id _ _ _ (by decide)]) hH) ls (lv_sub hl [2, 3, 4, 5, 6, 1, 0] rfl)
      · exact absurd zq22 (by omega)
set_option maxRecDepth 100000 in
set_option maxHeartbeats 4000000 in
theorem c_X5_remove (l : Launch) (g : gT) (S : gSt) (f k : Int) (hf : 0 ≤ f ∧ f < 8) (hk : 0 ≤ k ∧ k < S 5 f) (hc : S 5 f ≤ 10) : MetG l g yX5_remove cX5_remove 5 none 1 21 [.ref (g.1 4), .int (iI f), .int (iI k)] S none (lnOut S 5 6 7 f k) := by
  refine bodyG (by decide +kernel) (Nat.le_of_ble_eq_true rfl) ?_
  intro p e s m args below meth c ls C0 hret hlk hl hH
  have zx := C0.1
  have zb := C0.2.1
  have hl : lv_has ls 5 [(0, .ref (g.1 4)), (1, .int (iI f)), (2, .int (iI k))] := hl
  have L24 : ∀ (μ : Nat) (j : Int), (10 * f + S 5 f - j).toNat = μ → (10 * f + k ≤ j ∧ j ≤ 10 * f + S 5 f - 1) → ∀ (H : Heap) (locs : List Loc), Hp g (s2 S 6 7 (delA (S 6) (10 * f + k) j) (delA (S 7) (10 * f + k) j)) s H locs → ∀ ls : Array Slot, lv_has ls 5 [(0, .ref (g.1 4)), (1, .int (iI f)), (2, .int (iI k)), (3, .int (iI (S 5 f))), (4, .int (iI j))] → W p l e { frames := 1, cells := 0, slots := 0, locals := 21 } s m args below meth c H locs 0 0 (MQ below (RetG g none (lnOut S 5 6 7 f k)) args s 0 0 (oA g)) (F0 m 24 ls []) := by
    refine lpN (fun μ24 ih24 => ?_)
    intro j hμ24 hj H locs hH ls hl
    refine lv_iload zx zb dX5_remove_24 (lv_at hl 4 rfl) ?_
    refine lv_iload_n zx zb dX5_remove_26 rfl (lv_at hl 1 rfl) ?_
    refine lv_iload_n zx zb dX5_remove_27 rfl (lv_at hl 3 rfl) ?_
    refine bi_const (n := 1) zx zb dX5_remove_28 ?_
    refine bi_sub zx zb dX5_remove_29 ?_
    refine csI (rest := [.int (iI j)]) (As := [.int (iI f), .int (iI ((S 5 f) - 1))]) C0 hH (c_X5_place l g (s2 S 6 7 (delA (S 6) (10 * f + k) j) (delA (S 7) (10 * f + k) j)) f ((S 5 f) - 1)) kw_X5_25 ky_X5_place ⟨Nat.le_of_ble_eq_true rfl, Nat.le_of_ble_eq_true rfl⟩ ⟨Nat.zero_le _, Nat.zero_le _⟩ rfl hl.1 rfl (Nat.le_of_ble_eq_true rfl) dX5_remove_30 (fun H locs hH => ?_)
    refine bq_ge (tgt := 74) zx zb dX5_remove_33 (by decide) ⟨by omega, by omega⟩ ⟨by omega, by omega⟩ (fun zq33 => ?_) (fun zq33 => ?_)
    · refine lv_aload_n zx zb dX5_remove_74 rfl (lv_at hl 0 rfl) ?_
      refine gf_X5_9 C0 hH dX5_remove_75 ?_
      refine lv_iload_n zx zb dX5_remove_78 rfl (lv_at hl 1 rfl) ?_
      refine lv_iload_n zx zb dX5_remove_79 rfl (lv_at hl 3 rfl) ?_
      refine bi_const (n := 1) zx zb dX5_remove_80 ?_
      refine bi_sub zx zb dX5_remove_81 ?_
      refine as_5 C0 hH (by omega) (by omega) dX5_remove_82 (fun H locs hH => ?_)
      exact retV C0 hret hlk hH (by rw [show j = 10 * f + S 5 f - 1 by omega]; rfl) dX5_remove_83
    · refine lv_aload_n zx zb dX5_remove_36 rfl (lv_at hl 0 rfl) ?_
      refine gf_X5_15 C0 hH dX5_remove_37 ?_
      refine lv_iload zx zb dX5_remove_40 (lv_at hl 4 rfl) ?_
      refine lv_aload_n zx zb dX5_remove_42 rfl (lv_at hl 0 rfl) ?_
      refine gf_X5_15 C0 hH dX5_remove_43 ?_
      refine lv_iload zx zb dX5_remove_46 (lv_at hl 4 rfl) ?_
      refine bi_const (n := 1) zx zb dX5_remove_48 ?_
      refine bi_add zx zb dX5_remove_49 ?_
      refine al_6 C0 hH (by omega) (by omega) dX5_remove_50 ?_
      show W p l e _ s m args below meth c H _ _ _ _ (F0 m 51 ls [.int (iI ((s2 S 6 7 (delA (S 6) (10 * f + k) j) (delA (S 7) (10 * f + k) j)) 6 (j + 1))), .int (iI j), .ref (g.1 6)])
      refine as_6 C0 hH (by omega) (by omega) dX5_remove_51 (fun H locs hH => ?_)
      refine lv_aload_n zx zb dX5_remove_52 rfl (lv_at hl 0 rfl) ?_
      refine gf_X5_18 C0 hH dX5_remove_53 ?_
      refine lv_iload zx zb dX5_remove_56 (lv_at hl 4 rfl) ?_
      refine lv_aload_n zx zb dX5_remove_58 rfl (lv_at hl 0 rfl) ?_
      refine gf_X5_18 C0 hH dX5_remove_59 ?_
      refine lv_iload zx zb dX5_remove_62 (lv_at hl 4 rfl) ?_
      refine bi_const (n := 1) zx zb dX5_remove_64 ?_
      refine bi_add zx zb dX5_remove_65 ?_
      refine al_7 C0 hH (by omega) (by omega) dX5_remove_66 ?_
      show W p l e _ s m args below meth c H _ _ _ _ (F0 m 67 ls [.int (iI ((s2 S 6 7 (delA (S 6) (10 * f + k) j) (delA (S 7) (10 * f + k) j)) 7 (j + 1))), .int (iI j), .ref (g.1 7)])
      refine as_7 C0 hH (by omega) (by omega) dX5_remove_67 (fun H locs hH => ?_)
      refine bi_inc (k0 := 4) (n := 1) (lv' := [(4, .int (iI (j + 1))), (0, .ref (g.1 4)), (1, .int (iI f)), (2, .int (iI k)), (3, .int (iI (S 5 f)))]) zx zb dX5_remove_68 hl rfl (by decide) rfl (fun ls hl => ?_)
      refine lv_goto (tgt := 24) zx zb dX5_remove_71 (by decide) ?_
      exact ih24 ((10 * f + S 5 f - (j + 1)).toNat) (by omega) (j + 1) rfl (by omega) _ _ (hp_eq (by exact (del_step (by decide) (S 6) (S 7) hj.1)) hH) ls (lv_sub hl [1, 2, 3, 4, 0] rfl)
  obtain ⟨H, hHe⟩ : ∃ H : Heap, H = s.heap := ⟨_, rfl⟩
  rw [show (Hp g S s s.heap []) = Hp g S s H [] by rw [hHe]] at hH
  rw [← hHe]
  refine lv_aload_n zx zb dX5_remove_0 rfl (lv_at hl 0 rfl) ?_
  refine gf_X5_9 C0 hH dX5_remove_1 ?_
  refine lv_iload_n zx zb dX5_remove_4 rfl (lv_at hl 1 rfl) ?_
  refine al_5 C0 hH (by omega) (by omega) dX5_remove_5 ?_
  refine lv_istore_n (lv' := [(3, .int (iI (S 5 f))), (0, .ref (g.1 4)), (1, .int (iI f)), (2, .int (iI k))]) zx zb dX5_remove_6 rfl hl (by decide) rfl (fun ls hl => ?_)
  refine lv_iload_n zx zb dX5_remove_7 rfl (lv_at hl 3 rfl) ?_
  refine bz_lt (tgt := 16) zx zb dX5_remove_8 (by decide) ⟨by omega, by omega⟩ (fun zq8 => ?_) (fun zq8 => ?_)
  · exact absurd zq8 (by omega)
  · refine lv_iload_n zx zb dX5_remove_11 rfl (lv_at hl 3 rfl) ?_
    refine lv_iload_n zx zb dX5_remove_12 rfl (lv_at hl 0 rfl) ?_
    refine bq_lt (tgt := 17) zx zb dX5_remove_13 (by decide) ⟨by omega, by omega⟩ ⟨by omega, by omega⟩ (fun zq13 => ?_) (fun zq13 => ?_)
    · refine lv_iload_n zx zb dX5_remove_17 rfl (lv_at hl 2 rfl) ?_
      refine lv_iload_n zx zb dX5_remove_18 rfl (lv_at hl 3 rfl) ?_
      refine csI (rest := []) (As := [.int (iI f), .int (iI k)]) C0 hH (c_X5_place l g S f k) kw_X5_25 ky_X5_place ⟨Nat.le_of_ble_eq_true rfl, Nat.le_of_ble_eq_true rfl⟩ ⟨Nat.zero_le _, Nat.zero_le _⟩ rfl hl.1 rfl (Nat.le_of_ble_eq_true rfl) dX5_remove_19 (fun H locs hH => ?_)
      refine lv_istore (lv' := [(4, .int (iI (10 * f + k))), (3, .int (iI (S 5 f))), (0, .ref (g.1 4)), (1, .int (iI f)), (2, .int (iI k))]) zx zb dX5_remove_22 hl (by decide) rfl (fun ls hl => ?_)
      exact L24 _ (10 * f + k) rfl (by omega) _ _ (hp_eq (by rw [delA_0, delA_0, s2_id _ _ _ (by decide)]) hH) ls (lv_sub hl [2, 3, 4, 1, 0] rfl)
    · exact absurd zq13 (by omega)
end
section
/-! ===== bits: sets of small numbers as naturals ===== -/
theorem iN (n : Nat) : iI (n : Int) = nI n := (iI_nat n).symm
theorem bt_and (a b : Nat) : iI (a : Int) &&& iI (b : Int) = iI ((a &&& b : Nat) : Int) := by
  rw [iN, iN, iN]
  apply Int32.toBitVec_inj.1
  show BitVec.ofNat 32 a &&& BitVec.ofNat 32 b = BitVec.ofNat 32 (a &&& b)
  apply BitVec.eq_of_getLsbD_eq
  intro i hi
  simp [hi]
theorem bt_or (a b : Nat) : iI (a : Int) ||| iI (b : Int) = iI ((a ||| b : Nat) : Int) := by
  rw [iN, iN, iN]
  apply Int32.toBitVec_inj.1
  show BitVec.ofNat 32 a ||| BitVec.ofNat 32 b = BitVec.ofNat 32 (a ||| b)
  apply BitVec.eq_of_getLsbD_eq
  intro i hi
  simp [hi]
theorem bt_amt : ∀ n : Nat, n < 31 → ((nI n &&& 31).toBitVec.smod 32).toNat = n := by decide +kernel
theorem bt_shl {b : Int} (h0 : 0 ≤ b) (h1 : b < 31) : iI 1 <<< (iI b &&& 31) = iI ((2 ^ b.toNat : Nat) : Int) := by
  obtain ⟨n, rfl⟩ : ∃ n : Nat, b = (n : Int) := ⟨b.toNat, (Int.toNat_of_nonneg h0).symm⟩
  have hn : n < 31 := by omega
  rw [iN, iN, Int.toNat_natCast]
  have h2 : (1 : Nat) * 2 ^ n < 2 ^ 32 := by
    rw [Nat.one_mul]
    exact Nat.pow_lt_pow_right (by decide) (by omega)
  have h3 := pk_shlN (n := 1) (nI n &&& 31) n (bt_amt n hn) h2
  rw [Nat.one_mul] at h3
  exact h3
theorem bt_shr {a : Nat} (ha : a < 2 ^ 31) {b : Int} (h0 : 0 ≤ b) (h1 : b < 31) : iI (a : Int) >>> (iI b &&& 31) = iI ((a / 2 ^ b.toNat : Nat) : Int) := by
  obtain ⟨n, rfl⟩ : ∃ n : Nat, b = (n : Int) := ⟨b.toNat, (Int.toNat_of_nonneg h0).symm⟩
  have hn : n < 31 := by omega
  rw [iN, iN, iN, Int.toNat_natCast]
  exact pk_shrN ha (nI n &&& 31) n (bt_amt n hn)
theorem bt_test (k n : Nat) : k &&& 2 ^ n = 0 ↔ k.testBit n = false := by
  constructor
  · intro h
    have h1 : (k &&& 2 ^ n).testBit n = false := by rw [h]; simp
    rw [Nat.testBit_and] at h1
    simpa using h1
  · intro h
    apply Nat.eq_of_testBit_eq
    intro i
    rw [Nat.testBit_and]
    by_cases hi : n = i
    · subst hi; simp [h]
    · first | (simp [Nat.testBit_two_pow, hi]; done) | (simp [Nat.testBit_two_pow_of_ne hi]; done)
theorem bt_test2 (k n : Nat) : k / 2 ^ n % 2 = 0 ↔ k.testBit n = false := by
  rw [Nat.testBit_eq_decide_div_mod_eq]
  simp
theorem bt_and_lt {a b n : Nat} (h : b < 2 ^ n) : a &&& b < 2 ^ n := Nat.lt_of_le_of_lt Nat.and_le_right h
theorem bt_pow_lt {b : Int} {n : Nat} (h1 : b < n) : 2 ^ b.toNat < 2 ^ n ∨ n = 0 := by
  by_cases h : n = 0
  · exact Or.inr h
  · exact Or.inl (Nat.pow_lt_pow_right (by decide) (by omega))
section BT
variable {p : Program} {l : Launch} {e : Env} {R : Room} {s : State} {m : MethodId} {args : Array Value} {below : List Frame} {meth : Method} {c : Code} {H : Heap} {locs : List Loc} {cells slots : Nat} {Q : State → Prop}
variable {g : gT} {own : String} {cc : ByteArray} {nL : Nat} {S S' : gSt} {pc : Nat} {ls : Array Slot} {rest : List Value}
theorem bi_and {a b : Nat} (hx : p.tables.exec = Jvm.exec) (hb : c.code = cc) (hdg : decode cc pc = .ok (.iand, 1))
    (k : W p l e R s m args below meth c H locs cells slots Q (F0 m (pc + 1) ls (.int (iI ((a &&& b : Nat) : Int)) :: rest))) : W p l e R s m args below meth c H locs cells slots Q (F0 m pc ls (.int (iI (b : Int)) :: .int (iI (a : Int)) :: rest)) := lv_iand hx hb hdg (by rw [bt_and]; exact k)
theorem bi_or {a b : Nat} (hx : p.tables.exec = Jvm.exec) (hb : c.code = cc) (hdg : decode cc pc = .ok (.ior, 1))
    (k : W p l e R s m args below meth c H locs cells slots Q (F0 m (pc + 1) ls (.int (iI ((a ||| b : Nat) : Int)) :: rest))) : W p l e R s m args below meth c H locs cells slots Q (F0 m pc ls (.int (iI (b : Int)) :: .int (iI (a : Int)) :: rest)) := lv_ior hx hb hdg (by rw [bt_or]; exact k)
theorem bi_shl {b : Int} (hx : p.tables.exec = Jvm.exec) (hb : c.code = cc) (hdg : decode cc pc = .ok (.ishl, 1)) (h0 : 0 ≤ b) (h1 : b < 31)
    (k : W p l e R s m args below meth c H locs cells slots Q (F0 m (pc + 1) ls (.int (iI ((2 ^ b.toNat : Nat) : Int)) :: rest))) : W p l e R s m args below meth c H locs cells slots Q (F0 m pc ls (.int (iI b) :: .int (iI 1) :: rest)) := lv_ishl hx hb hdg (by rw [bt_shl h0 h1]; exact k)
theorem bi_shr {a : Nat} {b : Int} (hx : p.tables.exec = Jvm.exec) (hb : c.code = cc) (hdg : decode cc pc = .ok (.ishr, 1)) (ha : a < 2 ^ 31) (h0 : 0 ≤ b) (h1 : b < 31)
    (k : W p l e R s m args below meth c H locs cells slots Q (F0 m (pc + 1) ls (.int (iI ((a / 2 ^ b.toNat : Nat) : Int)) :: rest))) : W p l e R s m args below meth c H locs cells slots Q (F0 m pc ls (.int (iI b) :: .int (iI (a : Int)) :: rest)) := lv_ishr hx hb hdg (by rw [bt_shr ha h0 h1]; exact k)
theorem bi_alen {own : String} (C0 : Ct p s m args c g own cc nL) (hH : Hp g S s H locs) (k n : Nat) (he : (Wl g S)[k]? = some (kA g S k n)) (hdg : decode cc pc = .ok (.arraylength, 1))
    (kk : W p l e R s m args below meth c H locs cells slots Q (F0 m (pc + 1) ls (.int (iI (n : Int)) :: rest))) : W p l e R s m args below meth c H locs cells slots Q (F0 m pc ls (.ref (g.1 k) :: rest)) :=
  va_alen (v := iI (n : Int)) C0.1 C0.2.1 C0.2.2.2.2.1.k hH.1 k 0 he rfl (iI_nat n) hdg kk
end BT
/-! ===== filling, names ===== -/
def fillA (n v : Int) (F : Int → Int) : Int → Int := fun j => if 0 ≤ j ∧ j < n then v else F j
theorem fillA_0 (v : Int) (F : Int → Int) : fillA 0 v F = F := by funext j; unfold fillA; rw [if_neg (by omega)]
theorem fillA_s {i : Int} (v : Int) (F : Int → Int) (h : 0 ≤ i) : ud (fillA i v F) i v = fillA (i + 1) v F := by
  funext j; unfold ud fillA
  by_cases h1 : j = i
  · rw [if_pos h1, if_pos (by omega)]
  · rw [if_neg h1]
    by_cases h2 : 0 ≤ j ∧ j < i
    · rw [if_pos h2, if_pos (by omega)]
    · rw [if_neg h2, if_neg (by omega)]
/-- the first free name of figure f with v votes, where it has none yet -/
def gnQ (T : Int → Int) (k : Nat) (f v : Int) : Int → Bool := fun n => !k.testBit n.toNat && decide (T (f * 10 + n) = v)
def gnI (G T : Int → Int) (k : Nat) (f v : Int) : Int := if G f = -1 then fdF (gnQ T k f v) (10 : Int).toNat 0 else -1
def gnR (x : Int) : Nat := if x = -1 then 0 else 2 ^ x.toNat
def gnF (G : Int → Int) (f x : Int) : Int → Int := if x = -1 then G else ud G f x
abbrev gnT : Type := (Int → Int) × Nat
def gnA (T : Int → Int) (v : Int) : Int → gnT → gnT := fun f q => (gnF q.1 f (gnI q.1 T q.2 f v), q.2 ||| gnR (gnI q.1 T q.2 f v))
def gnB (T : Int → Int) (nf : Int) : Int → gnT → gnT := fun i q => lpF (gnA T (6 - i)) nf.toNat 0 q
def nmI (T G : Int → Int) : Int → Int := (lpF (gnB T 8) (6 : Int).toNat 0 (fillA 8 (-1) G, 0)).1
theorem gnI_b (G T : Int → Int) (k : Nat) (f v : Int) : gnI G T k f v = -1 ∨ (0 ≤ gnI G T k f v ∧ gnI G T k f v < 10) := by
  unfold gnI
  split
  · have := fdF_b (p := gnQ T k f v) (10 : Int).toNat 0 (by omega)
    omega
  · exact Or.inl rfl
theorem gnR_b (G T : Int → Int) (k : Nat) (f v : Int) : gnR (gnI G T k f v) < 1024 := by
  unfold gnR
  split
  · decide
  · have := gnI_b G T k f v
    exact Nat.lt_of_lt_of_le (Nat.pow_lt_pow_right (by decide) (show (gnI G T k f v).toNat < 10 by omega)) (by decide)
theorem or_1024 {a b : Nat} (h : a < 1024) (h2 : b < 1024) : a ||| b < 1024 := Nat.or_lt_two_pow (n := 10) h h2
def cnS (S : gSt) (f n d : Int) : gSt := if n = -1 then S else st S 10 (f * 10 + n) (S 10 (f * 10 + n) + d)
def gvS (S : gSt) : gSt := sA S 11 (nmI (S 10) (S 11))
def rpS (S : gSt) (v f n : Int) : gSt := gvS (cnS (cnS (st S 9 (v * 8 + f) n) f (S 9 (v * 8 + f)) (-1)) f n 1)
theorem cnS_10 (S : gSt) (f n d : Int) (hd : -1 ≤ d ∧ d ≤ 1) (j B : Int) (h : ∀ j, 0 ≤ j → j < 80 → -B ≤ S 10 j ∧ S 10 j ≤ B) (h0 : 0 ≤ j) (h1 : j < 80) : -(B + 1) ≤ cnS S f n d 10 j ∧ cnS S f n d 10 j ≤ B + 1 := by
  have hj := h j h0 h1
  unfold cnS
  split
  · omega
  · show _ ≤ ud (S 10) _ _ j ∧ ud (S 10) _ _ j ≤ _
    unfold ud
    split
    · next e => rw [← e]; omega
    · omega
theorem cnS_n {S : gSt} {f n d : Int} {a : Nat} (h : a ≠ 10) : cnS S f n d a = S a := by
  unfold cnS
  split
  · rfl
  · exact if_neg h
theorem gnF_b {G T : Int → Int} {k : Nat} {f v : Int} (h : ∀ j : Int, 0 ≤ j → j < 8 → -1 ≤ G j ∧ G j < 10) : ∀ j : Int, 0 ≤ j → j < 8 → -1 ≤ gnF G f (gnI G T k f v) j ∧ gnF G f (gnI G T k f v) j < 10 := by
  intro j h0 h1
  have hj := h j h0 h1
  have hb := gnI_b G T k f v
  unfold gnF
  split
  · exact hj
  · unfold ud
    split
    · omega
    · exact hj
theorem nm_in {T : Int → Int} {v : Int} {q : gnT} (h : 0 < v) : lpF (gnB T 8) v.toNat (6 - v) q = lpF (gnB T 8) (v - 1).toNat (7 - v) (lpF (gnA T v) (8 - (0 : Int)).toNat 0 q) := by
  rw [show v.toNat = (v - 1).toNat + 1 by omega]
  show lpF (gnB T 8) (v - 1).toNat (6 - v + 1) (lpF (gnA T (6 - (6 - v))) (8 : Int).toNat 0 q) = _
  rw [show 6 - v + 1 = 7 - v by omega, show 6 - (6 - v) = v by omega]
  rfl
end
section
set_option maxRecDepth 100000 in
set_option maxHeartbeats 4000000 in
theorem c_X3_keep (l : Launch) (g : gT) (S : gSt) (a b v u w : Int) (hn : 0 ≤ S 17 0 ∧ S 17 0 < 30) (hk : 0 ≤ S 17 1 ∧ S 17 1 ≤ 30) : MetG l g yX3_keep cX3_keep 6 none 1 21 [.ref (g.1 17), .int (iI a), .int (iI b), .int (iI v), .int (iI u), .int (iI w)] S none (kpS S a b v u w) := by
  refine bodyG (by decide +kernel) (Nat.le_of_ble_eq_true rfl) ?_
  intro p e s m args below meth c ls C0 hret hlk hl hH
  have zx := C0.1
  have zb := C0.2.1
  have hl : lv_has ls 6 [(0, .ref (g.1 17)), (1, .int (iI a)), (2, .int (iI b)), (3, .int (iI v)), (4, .int (iI u)), (5, .int (iI w))] := hl
  obtain ⟨H, hHe⟩ : ∃ H : Heap, H = s.heap := ⟨_, rfl⟩
  rw [show (Hp g S s s.heap []) = Hp g S s H [] by rw [hHe]] at hH
  rw [← hHe]
  refine lv_aload_n zx zb dX3_keep_0 rfl (lv_at hl 0 rfl) ?_
  refine gf_X3_9 C0 hH dX3_keep_1 ?_
  refine lv_aload_n zx zb dX3_keep_4 rfl (lv_at hl 0 rfl) ?_
  refine gf_X3_27 C0 hH dX3_keep_5 ?_
  refine lv_iload_n zx zb dX3_keep_8 rfl (lv_at hl 1 rfl) ?_
  refine as_18 C0 hH (by omega) (by omega) dX3_keep_9 (fun H locs hH => ?_)
  refine lv_aload_n zx zb dX3_keep_10 rfl (lv_at hl 0 rfl) ?_
  refine gf_X3_15 C0 hH dX3_keep_11 ?_
  refine lv_aload_n zx zb dX3_keep_14 rfl (lv_at hl 0 rfl) ?_
  refine gf_X3_27 C0 hH dX3_keep_15 ?_
  show W p l e _ s m args below meth c H _ _ _ _ (F0 m 18 ls [.int (iI (S 17 0)), .ref (g.1 19)])
  refine lv_iload_n zx zb dX3_keep_18 rfl (lv_at hl 2 rfl) ?_
  refine as_19 C0 hH (by omega) (by omega) dX3_keep_19 (fun H locs hH => ?_)
  refine lv_aload_n zx zb dX3_keep_20 rfl (lv_at hl 0 rfl) ?_
  refine gf_X3_18 C0 hH dX3_keep_21 ?_
  refine lv_aload_n zx zb dX3_keep_24 rfl (lv_at hl 0 rfl) ?_
  refine gf_X3_27 C0 hH dX3_keep_25 ?_
  show W p l e _ s m args below meth c H _ _ _ _ (F0 m 28 ls [.int (iI (S 17 0)), .ref (g.1 20)])
  refine lv_iload_n zx zb dX3_keep_28 rfl (lv_at hl 3 rfl) ?_
  refine as_20 C0 hH (by omega) (by omega) dX3_keep_29 (fun H locs hH => ?_)
  refine lv_aload_n zx zb dX3_keep_30 rfl (lv_at hl 0 rfl) ?_
  refine gf_X3_21 C0 hH dX3_keep_31 ?_
  refine lv_aload_n zx zb dX3_keep_34 rfl (lv_at hl 0 rfl) ?_
  refine gf_X3_27 C0 hH dX3_keep_35 ?_
  show W p l e _ s m args below meth c H _ _ _ _ (F0 m 38 ls [.int (iI (S 17 0)), .ref (g.1 21)])
  refine lv_iload zx zb dX3_keep_38 (lv_at hl 4 rfl) ?_
  refine as_21 C0 hH (by omega) (by omega) dX3_keep_40 (fun H locs hH => ?_)
  refine lv_aload_n zx zb dX3_keep_41 rfl (lv_at hl 0 rfl) ?_
  refine gf_X3_24 C0 hH dX3_keep_42 ?_
  refine lv_aload_n zx zb dX3_keep_45 rfl (lv_at hl 0 rfl) ?_
  refine gf_X3_27 C0 hH dX3_keep_46 ?_
  show W p l e _ s m args below meth c H _ _ _ _ (F0 m 49 ls [.int (iI (S 17 0)), .ref (g.1 22)])
  refine lv_iload zx zb dX3_keep_49 (lv_at hl 5 rfl) ?_
  refine as_22 C0 hH (by omega) (by omega) dX3_keep_51 (fun H locs hH => ?_)
  refine lv_aload_n zx zb dX3_keep_52 rfl (lv_at hl 0 rfl) ?_
  refine lv_aload_n zx zb dX3_keep_53 rfl (lv_at hl 0 rfl) ?_
  refine gf_X3_27 C0 hH dX3_keep_54 ?_
  show W p l e _ s m args below meth c H _ _ _ _ (F0 m 57 ls [.int (iI (S 17 0)), .ref (g.1 17)])
  refine bi_const (n := 1) zx zb dX3_keep_57 ?_
  refine bi_add zx zb dX3_keep_58 ?_
  refine bi_bip (n := 30) zx zb dX3_keep_59 (by decide) ?_
  refine bi_rem zx zb dX3_keep_61 ⟨by omega, by omega⟩ ⟨by omega, by omega⟩ (by omega) ?_
  rw [tm_p (show 0 ≤ S 17 0 + 1 by omega)]
  refine pf_X3_27 C0 hH dX3_keep_62 (fun H locs hH => ?_)
  refine lv_aload_n zx zb dX3_keep_65 rfl (lv_at hl 0 rfl) ?_
  refine lv_aload_n zx zb dX3_keep_66 rfl (lv_at hl 0 rfl) ?_
  refine gf_X3_31 C0 hH dX3_keep_67 ?_
  show W p l e _ s m args below meth c H _ _ _ _ (F0 m 70 ls [.int (iI (S 17 1)), .ref (g.1 17)])
  refine bi_const (n := 1) zx zb dX3_keep_70 ?_
  refine bi_add zx zb dX3_keep_71 ?_
  refine bi_bip (n := 30) zx zb dX3_keep_72 (by decide) ?_
  refine csI (rest := [.ref (g.1 17)]) (As := [.int (iI ((S 17 1) + 1)), .int (iI 30)]) C0 hH (c_J9_min_7cf53 l g (st (st (st (st (st (st S 18 (S 17 0) a) 19 (S 17 0) b) 20 (S 17 0) v) 21 (S 17 0) u) 22 (S 17 0) w) 17 0 (((S 17 0) + 1) % 30)) ((S 17 1) + 1) 30 (by omega) (by omega)) kw_X3_34 ky_J9_min_7cf53 ⟨Nat.le_of_ble_eq_true rfl, Nat.le_of_ble_eq_true rfl⟩ ⟨Nat.zero_le _, Nat.zero_le _⟩ rfl hl.1 rfl (Nat.le_of_ble_eq_true rfl) dX3_keep_74 (fun H locs hH => ?_)
  refine pf_X3_31 C0 hH dX3_keep_77 (fun H locs hH => ?_)
  exact retV C0 hret hlk hH (rfl) dX3_keep_80
set_option maxRecDepth 100000 in
set_option maxHeartbeats 4000000 in
theorem c_X3_stepBack (l : Launch) (g : gT) (S : gSt) (hn : 0 ≤ S 17 0 ∧ S 17 0 < 30) (hk : 0 ≤ S 17 1 ∧ S 17 1 ≤ 30) : MetG l g yX3_stepBack cX3_stepBack 1 none 0 0 [.ref (g.1 17)] S none (sbS S) := by
  refine bodyG (by decide +kernel) (Nat.le_of_ble_eq_true rfl) ?_
  intro p e s m args below meth c ls C0 hret hlk hl hH
  have zx := C0.1
  have zb := C0.2.1
  have hl : lv_has ls 1 [(0, .ref (g.1 17))] := hl
  obtain ⟨H, hHe⟩ : ∃ H : Heap, H = s.heap := ⟨_, rfl⟩
  rw [show (Hp g S s s.heap []) = Hp g S s H [] by rw [hHe]] at hH
  rw [← hHe]
  refine lv_aload_n zx zb dX3_stepBack_0 rfl (lv_at hl 0 rfl) ?_
  refine lv_aload_n zx zb dX3_stepBack_1 rfl (lv_at hl 0 rfl) ?_
  refine gf_X3_27 C0 hH dX3_stepBack_2 ?_
  refine bi_bip (n := 30) zx zb dX3_stepBack_5 (by decide) ?_
  refine bi_add zx zb dX3_stepBack_7 ?_
  refine bi_const (n := 1) zx zb dX3_stepBack_8 ?_
  refine bi_sub zx zb dX3_stepBack_9 ?_
  refine bi_bip (n := 30) zx zb dX3_stepBack_10 (by decide) ?_
  refine bi_rem zx zb dX3_stepBack_12 ⟨by omega, by omega⟩ ⟨by omega, by omega⟩ (by omega) ?_
  rw [tm_p (show 0 ≤ S 17 0 + 30 - 1 by omega), show S 17 0 + 30 - 1 = S 17 0 + 29 by omega]
  refine pf_X3_27 C0 hH dX3_stepBack_13 (fun H locs hH => ?_)
  refine lv_aload_n zx zb dX3_stepBack_16 rfl (lv_at hl 0 rfl) ?_
  refine lv_dup zx zb dX3_stepBack_17 rfl ?_
  refine gf_X3_31 C0 hH dX3_stepBack_18 ?_
  show W p l e _ s m args below meth c H _ _ _ _ (F0 m 21 ls [.int (iI (S 17 1)), .ref (g.1 17)])
  refine bi_const (n := 1) zx zb dX3_stepBack_21 ?_
  refine bi_sub zx zb dX3_stepBack_22 ?_
  refine pf_X3_31 C0 hH dX3_stepBack_23 (fun H locs hH => ?_)
  exact retV C0 hret hlk hH (rfl) dX3_stepBack_26
set_option maxRecDepth 100000 in
set_option maxHeartbeats 4000000 in
theorem c_X4_append (l : Launch) (g : gT) (S : gSt) (a b v u : Int) (hn : 0 ≤ S 12 0 ∧ S 12 0 < 12) : MetG l g yX4_append cX4_append 6 (some .int) 0 0 [.ref (g.1 12), .int (iI a), .int (iI b), .int (iI v), .int (iI u)] S (some (.int (iI (S 12 0)))) (apS S a b v u) := by
  refine bodyG (by decide +kernel) (Nat.le_of_ble_eq_true rfl) ?_
  intro p e s m args below meth c ls C0 hret hlk hl hH
  have zx := C0.1
  have zb := C0.2.1
  have hl : lv_has ls 6 [(0, .ref (g.1 12)), (1, .int (iI a)), (2, .int (iI b)), (3, .int (iI v)), (4, .int (iI u))] := hl
  obtain ⟨H, hHe⟩ : ∃ H : Heap, H = s.heap := ⟨_, rfl⟩
  rw [show (Hp g S s s.heap []) = Hp g S s H [] by rw [hHe]] at hH
  rw [← hHe]
  refine lv_aload_n zx zb dX4_append_0 rfl (lv_at hl 0 rfl) ?_
  refine gf_X4_24 C0 hH dX4_append_1 ?_
  refine lv_istore (lv' := [(5, .int (iI (S 12 0))), (0, .ref (g.1 12)), (1, .int (iI a)), (2, .int (iI b)), (3, .int (iI v)), (4, .int (iI u))]) zx zb dX4_append_4 hl (by decide) rfl (fun ls hl => ?_)
  refine lv_iload zx zb dX4_append_6 (lv_at hl 0 rfl) ?_
  refine bi_bip (n := 12) zx zb dX4_append_8 (by decide) ?_
  refine bq_ge (tgt := 56) zx zb dX4_append_10 (by decide) ⟨by omega, by omega⟩ ⟨by omega, by omega⟩ (fun zq10 => ?_) (fun zq10 => ?_)
  · exact absurd zq10 (by omega)
  · refine lv_aload_n zx zb dX4_append_13 rfl (lv_at hl 1 rfl) ?_
    refine gf_X4_9 C0 hH dX4_append_14 ?_
    refine lv_iload zx zb dX4_append_17 (lv_at hl 0 rfl) ?_
    refine lv_iload_n zx zb dX4_append_19 rfl (lv_at hl 2 rfl) ?_
    refine as_13 C0 hH (by omega) (by omega) dX4_append_20 (fun H locs hH => ?_)
    refine lv_aload_n zx zb dX4_append_21 rfl (lv_at hl 1 rfl) ?_
    refine gf_X4_15 C0 hH dX4_append_22 ?_
    refine lv_iload zx zb dX4_append_25 (lv_at hl 0 rfl) ?_
    refine lv_iload_n zx zb dX4_append_27 rfl (lv_at hl 3 rfl) ?_
    refine as_14 C0 hH (by omega) (by omega) dX4_append_28 (fun H locs hH => ?_)
    refine lv_aload_n zx zb dX4_append_29 rfl (lv_at hl 1 rfl) ?_
    refine gf_X4_18 C0 hH dX4_append_30 ?_
    refine lv_iload zx zb dX4_append_33 (lv_at hl 0 rfl) ?_
    refine lv_iload_n zx zb dX4_append_35 rfl (lv_at hl 4 rfl) ?_
    refine as_15 C0 hH (by omega) (by omega) dX4_append_36 (fun H locs hH => ?_)
    refine lv_aload_n zx zb dX4_append_37 rfl (lv_at hl 1 rfl) ?_
    refine gf_X4_21 C0 hH dX4_append_38 ?_
    refine lv_iload zx zb dX4_append_41 (lv_at hl 0 rfl) ?_
    refine lv_iload zx zb dX4_append_43 (lv_at hl 5 rfl) ?_
    refine as_16 C0 hH (by omega) (by omega) dX4_append_45 (fun H locs hH => ?_)
    refine lv_aload_n zx zb dX4_append_46 rfl (lv_at hl 1 rfl) ?_
    refine lv_dup zx zb dX4_append_47 rfl ?_
    refine gf_X4_24 C0 hH dX4_append_48 ?_
    show W p l e _ s m args below meth c H _ _ _ _ (F0 m 51 ls [.int (iI (S 12 0)), .ref (g.1 12)])
    refine bi_const (n := 1) zx zb dX4_append_51 ?_
    refine bi_add zx zb dX4_append_52 ?_
    refine pf_X4_24 C0 hH dX4_append_53 (fun H locs hH => ?_)
    refine lv_iload zx zb dX4_append_56 (lv_at hl 0 rfl) ?_
    exact retI C0 hret hlk hH (by rfl) (rfl) dX4_append_58
end
section
set_option maxRecDepth 100000 in
set_option maxHeartbeats 4000000 in
theorem c_J7_fill_53178 (l : Launch) (g : gT) (S : gSt) (v : Int)  : MetG l g yJ7_fill_53178 cJ7_fill_53178 4 none 0 0 [.ref (g.1 11), .int (iI v)] S none (sA S 11 (fillA 8 v (S 11))) := by
  refine bodyG (by decide +kernel) (Nat.le_of_ble_eq_true rfl) ?_
  intro p e s m args below meth c ls C0 hret hlk hl hH
  have zx := C0.1
  have zb := C0.2.1
  have hl : lv_has ls 4 [(0, .ref (g.1 11)), (1, .int (iI v))] := hl
  have L5 : ∀ (μ : Nat) (i : Int), (8 - i).toNat = μ → (0 ≤ i ∧ i ≤ 8) → ∀ (H : Heap) (locs : List Loc), Hp g (sA S 11 (fillA i v (S 11))) s H locs → ∀ ls : Array Slot, lv_has ls 4 [(0, .ref (g.1 11)), (1, .int (iI v)), (2, .int (iI i)), (3, .int (iI 8))] → W p l e { frames := 0, cells := 0, slots := 0, locals := 0 } s m args below meth c H locs 0 0 (MQ below (RetG g none (sA S 11 (fillA 8 v (S 11)))) args s 0 0 (oA g)) (F0 m 5 ls []) := by
    refine lpN (fun μ5 ih5 => ?_)
    intro i hμ5 hi H locs hH ls hl
    refine lv_iload_n zx zb dJ7_fill_53178_5 rfl (lv_at hl 2 rfl) ?_
    refine lv_iload_n zx zb dJ7_fill_53178_6 rfl (lv_at hl 3 rfl) ?_
    refine bq_ge (tgt := 20) zx zb dJ7_fill_53178_7 (by decide) ⟨by omega, by omega⟩ ⟨by omega, by omega⟩ (fun zq7 => ?_) (fun zq7 => ?_)
    · exact retV C0 hret hlk hH (by rw [show i = 8 by omega]) dJ7_fill_53178_20
    · refine lv_aload_n zx zb dJ7_fill_53178_10 rfl (lv_at hl 0 rfl) ?_
      refine lv_iload_n zx zb dJ7_fill_53178_11 rfl (lv_at hl 2 rfl) ?_
      refine lv_iload_n zx zb dJ7_fill_53178_12 rfl (lv_at hl 1 rfl) ?_
      refine as_11 C0 hH (by omega) (by omega) dJ7_fill_53178_13 (fun H locs hH => ?_)
      refine bi_inc (k0 := 2) (n := 1) (lv' := [(2, .int (iI (i + 1))), (0, .ref (g.1 11)), (1, .int (iI v)), (3, .int (iI 8))]) zx zb dJ7_fill_53178_14 hl rfl (by decide) rfl (fun ls hl => ?_)
      refine lv_goto (tgt := 5) zx zb dJ7_fill_53178_17 (by decide) ?_
      exact ih5 ((8 - (i + 1)).toNat) (by omega) (i + 1) rfl (by omega) _ _ (hp_eq (by rw [st_sA, sA_sA, sA_s, fillA_s _ _ hi.1]) hH) ls (lv_sub hl [1, 2, 0, 3] rfl)
  obtain ⟨H, hHe⟩ : ∃ H : Heap, H = s.heap := ⟨_, rfl⟩
  rw [show (Hp g S s s.heap []) = Hp g S s H [] by rw [hHe]] at hH
  rw [← hHe]
  refine bi_const (n := 0) zx zb dJ7_fill_53178_0 ?_
  refine lv_istore_n (lv' := [(2, .int (iI 0)), (0, .ref (g.1 11)), (1, .int (iI v))]) zx zb dJ7_fill_53178_1 rfl hl (by decide) rfl (fun ls hl => ?_)
  refine lv_aload_n zx zb dJ7_fill_53178_2 rfl (lv_at hl 1 rfl) ?_
  refine bi_alen C0 hH 11 8 rfl dJ7_fill_53178_3 ?_
  refine lv_istore_n (lv' := [(3, .int (iI 8)), (2, .int (iI 0)), (0, .ref (g.1 11)), (1, .int (iI v))]) zx zb dJ7_fill_53178_4 rfl hl (by decide) rfl (fun ls hl => ?_)
  exact L5 _ 0 rfl (by omega) _ _ (hp_eq (by rw [fillA_0, sA_id]) hH) ls (lv_sub hl [2, 3, 1, 0] rfl)
set_option maxRecDepth 100000 in
set_option maxHeartbeats 4000000 in
theorem c_X1_giveName (l : Launch) (g : gT) (S : gSt) (k : Nat) (f v : Int) (hf : 0 ≤ f ∧ f < 8) (hv : 0 ≤ v ∧ v ≤ 6) (hk : k < 1024) (hT : ∀ j : Int, 0 ≤ j → j < 80 → -100 ≤ S 10 j ∧ S 10 j ≤ 100) (hG : ∀ j : Int, 0 ≤ j → j < 8 → -1 ≤ S 11 j ∧ S 11 j < 10) : MetG l g yX1_giveName cX1_giveName 6 (some .int) 0 0 [.ref (g.1 8), .int (iI f), .int (iI v), .int (iI ((k : Nat) : Int))] S (some (.int (iI ((gnR (gnI (S 11) (S 10) k f v) : Nat) : Int)))) (sA S 11 (gnF (S 11) f (gnI (S 11) (S 10) k f v))) := by
  refine bodyG (by decide +kernel) (Nat.le_of_ble_eq_true rfl) ?_
  intro p e s m args below meth c ls C0 hret hlk hl hH
  have zx := C0.1
  have zb := C0.2.1
  have hl : lv_has ls 6 [(0, .ref (g.1 8)), (1, .int (iI f)), (2, .int (iI v)), (3, .int (iI ((k : Nat) : Int)))] := hl
  have L3 : ∀ (μ : Nat) (i : Int), (10 - i).toNat = μ → (0 ≤ i ∧ i ≤ 10) → (gnI (S 11) (S 10) k f v = if S 11 f = -1 then fdF (gnQ (S 10) k f v) (10 - i).toNat i else -1) → ∀ (H : Heap) (locs : List Loc), Hp g S s H locs → ∀ ls : Array Slot, lv_has ls 6 [(0, .ref (g.1 8)), (1, .int (iI f)), (2, .int (iI v)), (3, .int (iI ((k : Nat) : Int))), (4, .int (iI i))] → W p l e { frames := 0, cells := 0, slots := 0, locals := 0 } s m args below meth c H locs 0 0 (MQ below (RetG g (some (.int (iI ((gnR (gnI (S 11) (S 10) k f v) : Nat) : Int)))) (sA S 11 (gnF (S 11) f (gnI (S 11) (S 10) k f v)))) args s 0 0 (oA g)) (F0 m 3 ls []) := by
    refine lpN (fun μ3 ih3 => ?_)
    intro i hμ3 hi hR H locs hH ls hl
    refine lv_iload zx zb dX1_giveName_3 (lv_at hl 4 rfl) ?_
    refine bi_bip (n := 10) zx zb dX1_giveName_5 (by decide) ?_
    refine bq_ge (tgt := 76) zx zb dX1_giveName_7 (by decide) ⟨by omega, by omega⟩ ⟨by omega, by omega⟩ (fun zq7 => ?_) (fun zq7 => ?_)
    · refine bi_const (n := 0) zx zb dX1_giveName_76 ?_
      exact retI C0 hret hlk hH (by rw [hR]; first | (rw [fdF_e (by omega), ite_self]; rfl) | (rw [if_neg zq17]; rfl)) (by rw [hR]; first | (rw [fdF_e (by omega), ite_self]; unfold gnF; rw [if_pos rfl, sA_id]) | (rw [if_neg zq17]; unfold gnF; rw [if_pos rfl, sA_id])) dX1_giveName_77
    · have hg := hG f hf.1 hf.2
      refine lv_aload_n zx zb dX1_giveName_10 rfl (lv_at hl 0 rfl) ?_
      refine gf_X1_18 C0 hH dX1_giveName_11 ?_
      refine lv_iload_n zx zb dX1_giveName_14 rfl (lv_at hl 1 rfl) ?_
      refine al_11 C0 hH (by omega) (by omega) dX1_giveName_15 ?_
      refine bi_const (n := (-1)) zx zb dX1_giveName_16 ?_
      refine bq_ne (tgt := 76) zx zb dX1_giveName_17 (by decide) ⟨by omega, by omega⟩ ⟨by omega, by omega⟩ (fun zq17 => ?_) (fun zq17 => ?_)
      · refine bi_const (n := 0) zx zb dX1_giveName_76 ?_
        exact retI C0 hret hlk hH (by rw [hR]; first | (rw [fdF_e (by omega), ite_self]; rfl) | (rw [if_neg zq17]; rfl)) (by rw [hR]; first | (rw [fdF_e (by omega), ite_self]; unfold gnF; rw [if_pos rfl, sA_id]) | (rw [if_neg zq17]; unfold gnF; rw [if_pos rfl, sA_id])) dX1_giveName_77
      · refine lv_iload_n zx zb dX1_giveName_20 rfl (lv_at hl 3 rfl) ?_
        refine bi_const (n := 1) zx zb dX1_giveName_21 ?_
        refine lv_iload zx zb dX1_giveName_22 (lv_at hl 4 rfl) ?_
        refine bi_shl zx zb dX1_giveName_24 (by omega) (by omega) ?_
        refine bi_and (a := k) (b := 2 ^ i.toNat) zx zb dX1_giveName_25 ?_
        have hz26 : (k &&& 2 ^ i.toNat : Nat) < 2 ^ 10 := bt_and_lt (Nat.pow_lt_pow_right (by decide) (by omega))
        refine bz_ne (tgt := 33) zx zb dX1_giveName_26 (by decide) ⟨by omega, by omega⟩ (fun zq26 => ?_) (fun zq26 => ?_)
        · refine bi_const (n := 0) zx zb dX1_giveName_33 ?_
          refine lv_istore (lv' := [(5, .int (iI 0)), (0, .ref (g.1 8)), (1, .int (iI f)), (2, .int (iI v)), (3, .int (iI ((k : Nat) : Int))), (4, .int (iI i))]) zx zb dX1_giveName_34 hl (by decide) rfl (fun ls hl => ?_)
          refine lv_iload zx zb dX1_giveName_36 (lv_at hl 0 rfl) ?_
          refine bz_eq (tgt := 70) zx zb dX1_giveName_38 (by decide) ⟨by omega, by omega⟩ (fun zq38 => ?_) (fun zq38 => ?_)
          · refine bi_inc (k0 := 5) (n := 1) (lv' := [(4, .int (iI (i + 1))), (5, .int (iI 0)), (0, .ref (g.1 8)), (1, .int (iI f)), (2, .int (iI v)), (3, .int (iI ((k : Nat) : Int)))]) zx zb dX1_giveName_70 hl rfl (by decide) rfl (fun ls hl => ?_)
            refine lv_goto (tgt := 3) zx zb dX1_giveName_73 (by decide) ?_
            exact ih3 ((10 - (i + 1)).toNat) (by omega) (i + 1) rfl (by omega) (by rw [hR, if_pos zq17, if_pos zq17, fdF_t zq7 (by unfold gnQ; first | (rw [decide_eq_false zq54, Bool.and_false]; done) | (cases hzc : k.testBit i.toNat; exact absurd (by rw [(bt_test k i.toNat).mpr hzc]; rfl) zq26; rfl))]) _ _ hH ls (lv_sub hl [2, 3, 4, 5, 0] rfl)
          · exact absurd zq38 (by decide)
        · refine bi_const (n := 1) zx zb dX1_giveName_29 ?_
          refine lv_goto (tgt := 34) zx zb dX1_giveName_30 (by decide) ?_
          refine lv_istore (lv' := [(5, .int (iI 1)), (0, .ref (g.1 8)), (1, .int (iI f)), (2, .int (iI v)), (3, .int (iI ((k : Nat) : Int))), (4, .int (iI i))]) zx zb dX1_giveName_34 hl (by decide) rfl (fun ls hl => ?_)
          refine lv_iload zx zb dX1_giveName_36 (lv_at hl 0 rfl) ?_
          refine bz_eq (tgt := 70) zx zb dX1_giveName_38 (by decide) ⟨by omega, by omega⟩ (fun zq38 => ?_) (fun zq38 => ?_)
          · exact absurd zq38 (by decide)
          · have ht := hT (f * 10 + i) (by omega) (by omega)
            refine lv_aload_n zx zb dX1_giveName_41 rfl (lv_at hl 1 rfl) ?_
            refine gf_X1_15 C0 hH dX1_giveName_42 ?_
            refine lv_iload_n zx zb dX1_giveName_45 rfl (lv_at hl 2 rfl) ?_
            refine bi_bip (n := 10) zx zb dX1_giveName_46 (by decide) ?_
            refine bi_mul zx zb dX1_giveName_48 ?_
            refine lv_iload zx zb dX1_giveName_49 (lv_at hl 5 rfl) ?_
            refine bi_add zx zb dX1_giveName_51 ?_
            refine al_10 C0 hH (by omega) (by omega) dX1_giveName_52 ?_
            refine lv_iload_n zx zb dX1_giveName_53 rfl (lv_at hl 3 rfl) ?_
            refine bq_ne (tgt := 70) zx zb dX1_giveName_54 (by decide) ⟨by omega, by omega⟩ ⟨by omega, by omega⟩ (fun zq54 => ?_) (fun zq54 => ?_)
            · refine bi_inc (k0 := 5) (n := 1) (lv' := [(4, .int (iI (i + 1))), (5, .int (iI 1)), (0, .ref (g.1 8)), (1, .int (iI f)), (2, .int (iI v)), (3, .int (iI ((k : Nat) : Int)))]) zx zb dX1_giveName_70 hl rfl (by decide) rfl (fun ls hl => ?_)
              refine lv_goto (tgt := 3) zx zb dX1_giveName_73 (by decide) ?_
              exact ih3 ((10 - (i + 1)).toNat) (by omega) (i + 1) rfl (by omega) (by rw [hR, if_pos zq17, if_pos zq17, fdF_t zq7 (by unfold gnQ; first | (rw [decide_eq_false zq54, Bool.and_false]; done) | (cases hzc : k.testBit i.toNat; exact absurd (by rw [(bt_test k i.toNat).mpr hzc]; rfl) zq26; rfl))]) _ _ hH ls (lv_sub hl [2, 3, 4, 5, 0] rfl)
            · have hz1 : gnQ (S 10) k f v i = true := by unfold gnQ; rw [(bt_test k i.toNat).mp (by omega), decide_eq_true zq54]; rfl
              refine lv_aload_n zx zb dX1_giveName_57 rfl (lv_at hl 1 rfl) ?_
              refine gf_X1_18 C0 hH dX1_giveName_58 ?_
              refine lv_iload_n zx zb dX1_giveName_61 rfl (lv_at hl 2 rfl) ?_
              refine lv_iload zx zb dX1_giveName_62 (lv_at hl 5 rfl) ?_
              refine as_11 C0 hH (by omega) (by omega) dX1_giveName_64 (fun H locs hH => ?_)
              refine bi_const (n := 1) zx zb dX1_giveName_65 ?_
              refine lv_iload zx zb dX1_giveName_66 (lv_at hl 5 rfl) ?_
              refine bi_shl zx zb dX1_giveName_68 (by omega) (by omega) ?_
              exact retI C0 hret hlk hH (by rw [hR, if_pos zq17, fdF_f zq7 hz1]; unfold gnR; rw [if_neg (by omega)]) (by rw [hR, if_pos zq17, fdF_f zq7 hz1]; unfold gnF; rw [if_neg (by omega), st_sA]) dX1_giveName_69
  obtain ⟨H, hHe⟩ : ∃ H : Heap, H = s.heap := ⟨_, rfl⟩
  rw [show (Hp g S s s.heap []) = Hp g S s H [] by rw [hHe]] at hH
  rw [← hHe]
  refine bi_const (n := 0) zx zb dX1_giveName_0 ?_
  refine lv_istore (lv' := [(4, .int (iI 0)), (0, .ref (g.1 8)), (1, .int (iI f)), (2, .int (iI v)), (3, .int (iI ((k : Nat) : Int)))]) zx zb dX1_giveName_1 hl (by decide) rfl (fun ls hl => ?_)
  exact L3 _ 0 rfl (by omega) (by unfold gnI; rfl) _ _ hH ls (lv_sub hl [1, 2, 3, 4, 0] rfl)
set_option maxRecDepth 100000 in
set_option maxHeartbeats 4000000 in
theorem c_X1_count (l : Launch) (g : gT) (S : gSt) (f n d : Int) (hf : 0 ≤ f ∧ f < 8) (hn : -1 ≤ n ∧ n < 10) : MetG l g yX1_count cX1_count 4 none 0 0 [.ref (g.1 8), .int (iI f), .int (iI n), .int (iI d)] S none (cnS S f n d) := by
  refine bodyG (by decide +kernel) (Nat.le_of_ble_eq_true rfl) ?_
  intro p e s m args below meth c ls C0 hret hlk hl hH
  have zx := C0.1
  have zb := C0.2.1
  have hl : lv_has ls 4 [(0, .ref (g.1 8)), (1, .int (iI f)), (2, .int (iI n)), (3, .int (iI d))] := hl
  obtain ⟨H, hHe⟩ : ∃ H : Heap, H = s.heap := ⟨_, rfl⟩
  rw [show (Hp g S s s.heap []) = Hp g S s H [] by rw [hHe]] at hH
  rw [← hHe]
  refine lv_iload_n zx zb dX1_count_0 rfl (lv_at hl 2 rfl) ?_
  refine bi_const (n := (-1)) zx zb dX1_count_1 ?_
  refine bq_eq (tgt := 20) zx zb dX1_count_2 (by decide) ⟨by omega, by omega⟩ ⟨by omega, by omega⟩ (fun zq2 => ?_) (fun zq2 => ?_)
  · exact retV C0 hret hlk hH (by unfold cnS; first | rw [if_pos zq2] | rw [if_neg zq2]) dX1_count_20
  · refine lv_aload_n zx zb dX1_count_5 rfl (lv_at hl 0 rfl) ?_
    refine gf_X1_15 C0 hH dX1_count_6 ?_
    refine lv_iload_n zx zb dX1_count_9 rfl (lv_at hl 1 rfl) ?_
    refine bi_bip (n := 10) zx zb dX1_count_10 (by decide) ?_
    refine bi_mul zx zb dX1_count_12 ?_
    refine lv_iload_n zx zb dX1_count_13 rfl (lv_at hl 2 rfl) ?_
    refine bi_add zx zb dX1_count_14 ?_
    refine lv_dup2_11 zx zb dX1_count_15 rfl rfl ?_
    refine al_10 C0 hH (by omega) (by omega) dX1_count_16 ?_
    refine lv_iload_n zx zb dX1_count_17 rfl (lv_at hl 3 rfl) ?_
    refine bi_add zx zb dX1_count_18 ?_
    refine as_10 C0 hH (by omega) (by omega) dX1_count_19 (fun H locs hH => ?_)
    exact retV C0 hret hlk hH (by unfold cnS; first | rw [if_pos zq2] | rw [if_neg zq2]) dX1_count_20
set_option maxRecDepth 100000 in
set_option maxHeartbeats 4000000 in
theorem c_X1_giveNames (l : Launch) (g : gT) (S : gSt) (hT : ∀ j : Int, 0 ≤ j → j < 80 → -100 ≤ S 10 j ∧ S 10 j ≤ 100) : MetG l g yX1_giveNames cX1_giveNames 4 none 1 25 [.ref (g.1 8)] S none (gvS S) := by
  refine bodyG (by decide +kernel) (Nat.le_of_ble_eq_true rfl) ?_
  intro p e s m args below meth c ls C0 hret hlk hl hH
  have zx := C0.1
  have zb := C0.2.1
  have hl : lv_has ls 4 [(0, .ref (g.1 8))] := hl
  have L13 : ∀ (μ : Nat) (k : Nat) (v : Int) (G : Int → Int), v.toNat = μ → (k < 1024) → (0 ≤ v ∧ v ≤ 6) → (∀ j : Int, 0 ≤ j → j < 8 → -1 ≤ G j ∧ G j < 10) → (nmI (S 10) (S 11) = (lpF (gnB (S 10) 8) v.toNat (6 - v) (G, k)).1) → ∀ (H : Heap) (locs : List Loc), Hp g (sA S 11 G) s H locs → ∀ ls : Array Slot, lv_has ls 4 [(0, .ref (g.1 8)), (1, .int (iI ((k : Nat) : Int))), (2, .int (iI v))] → W p l e { frames := 1, cells := 0, slots := 0, locals := 25 } s m args below meth c H locs 0 0 (MQ below (RetG g none (gvS S)) args s 0 0 (oA g)) (F0 m 13 ls []) := by
    refine lpN (fun μ13 ih13 => ?_)
    intro k v G hμ13 hk hv hG hR H locs hH ls hl
    have L19 : ∀ (μ : Nat) (k : Nat) (f : Int) (G : Int → Int), (8 - f).toNat = μ → (k < 1024) → (1 ≤ v ∧ v ≤ 6) → (0 ≤ f ∧ f ≤ 8) → (∀ j : Int, 0 ≤ j → j < 8 → -1 ≤ G j ∧ G j < 10) → (nmI (S 10) (S 11) = (lpF (gnB (S 10) 8) (v - 1).toNat (7 - v) (lpF (gnA (S 10) v) (8 - f).toNat f (G, k))).1) → ∀ (H : Heap) (locs : List Loc), Hp g (sA S 11 G) s H locs → ∀ ls : Array Slot, lv_has ls 4 [(0, .ref (g.1 8)), (1, .int (iI ((k : Nat) : Int))), (2, .int (iI v)), (3, .int (iI f))] → W p l e { frames := 1, cells := 0, slots := 0, locals := 25 } s m args below meth c H locs 0 0 (MQ below (RetG g none (gvS S)) args s 0 0 (oA g)) (F0 m 19 ls []) := by
      refine lpN (fun μ19 ih19 => ?_)
      intro k f G hμ19 hk hv2 hf hG hR H locs hH ls hl
      refine lv_iload_n zx zb dX1_giveNames_19 rfl (lv_at hl 3 rfl) ?_
      refine bi_bip (n := 8) zx zb dX1_giveNames_20 (by decide) ?_
      refine bq_ge (tgt := 41) zx zb dX1_giveNames_22 (by decide) ⟨by omega, by omega⟩ ⟨by omega, by omega⟩ (fun zq22 => ?_) (fun zq22 => ?_)
      · refine bi_inc (k0 := 2) (n := (-1)) (lv' := [(2, .int (iI (v + (-1)))), (0, .ref (g.1 8)), (1, .int (iI ((k : Nat) : Int))), (3, .int (iI f))]) zx zb dX1_giveNames_41 hl rfl (by decide) rfl (fun ls hl => ?_)
        refine lv_goto (tgt := 13) zx zb dX1_giveNames_44 (by decide) ?_
        exact ih13 ((v + (-1)).toNat) (by omega) k (v + (-1)) G rfl (by omega) (by omega) (by exact hG) (by rw [hR, lpF_e2 (f := gnA (S 10) v) (n := 8) (i := f) zq22, show v + -1 = v - 1 by omega, show 6 - (v - 1) = 7 - v by omega]) _ _ hH ls (lv_sub hl [1, 2, 0] rfl)
      · refine lv_iload_n zx zb dX1_giveNames_25 rfl (lv_at hl 1 rfl) ?_
        refine lv_aload_n zx zb dX1_giveNames_26 rfl (lv_at hl 0 rfl) ?_
        refine lv_iload_n zx zb dX1_giveNames_27 rfl (lv_at hl 3 rfl) ?_
        refine lv_iload_n zx zb dX1_giveNames_28 rfl (lv_at hl 2 rfl) ?_
        refine lv_iload_n zx zb dX1_giveNames_29 rfl (lv_at hl 1 rfl) ?_
        refine cvI (rest := [.int (iI ((k : Nat) : Int))]) (As := [.int (iI f), .int (iI v), .int (iI ((k : Nat) : Int))]) (b := g.1 8) C0 hH (c_X1_giveName l g (sA S 11 G) k f v (by omega) (by omega) (by omega) (fun j h1 h2 => by rw [sA_n (by decide)]; exact hT j h1 h2) (fun j h1 h2 => by rw [sA_s]; exact hG j h1 h2)) kw_X1_34 ky_X1_giveName ⟨Nat.le_of_ble_eq_true rfl, Nat.le_of_ble_eq_true rfl⟩ ⟨Nat.zero_le _, Nat.zero_le _⟩ 8 rfl rfl rfl hl.1 rfl (Nat.le_of_ble_eq_true rfl) dX1_giveNames_30 (fun H locs hH => ?_)
        refine bi_or (a := k) (b := gnR (gnI ((sA S 11 G) 11) ((sA S 11 G) 10) k f v)) zx zb dX1_giveNames_33 ?_
        refine lv_istore_n (lv' := [(1, .int (iI ((k ||| (gnR (gnI ((sA S 11 G) 11) ((sA S 11 G) 10) k f v)) : Nat) : Int))), (0, .ref (g.1 8)), (2, .int (iI v)), (3, .int (iI f))]) zx zb dX1_giveNames_34 rfl hl (by decide) rfl (fun ls hl => ?_)
        refine bi_inc (k0 := 3) (n := 1) (lv' := [(3, .int (iI (f + 1))), (1, .int (iI ((k ||| (gnR (gnI ((sA S 11 G) 11) ((sA S 11 G) 10) k f v)) : Nat) : Int))), (0, .ref (g.1 8)), (2, .int (iI v))]) zx zb dX1_giveNames_35 hl rfl (by decide) rfl (fun ls hl => ?_)
        refine lv_goto (tgt := 19) zx zb dX1_giveNames_38 (by decide) ?_
        exact ih19 ((8 - (f + 1)).toNat) (by omega) (k ||| gnR (gnI G (S 10) k f v)) (f + 1) (gnF G f (gnI G (S 10) k f v)) rfl (by exact or_1024 hk (gnR_b _ _ _ _ _)) (by omega) (by omega) (by exact gnF_b hG) (by rw [hR, lpF_s2 zq22]; rfl) _ _ (hp_eq (by rw [sA_sA, sA_s, sA_n (by decide)]) hH) ls (lv_sub hl [2, 1, 3, 0] rfl)
    refine lv_iload_n zx zb dX1_giveNames_13 rfl (lv_at hl 2 rfl) ?_
    refine bz_le (tgt := 47) zx zb dX1_giveNames_14 (by decide) ⟨by omega, by omega⟩ (fun zq14 => ?_) (fun zq14 => ?_)
    · exact retV C0 hret hlk hH (by unfold gvS; rw [hR, show v = 0 by omega]; rfl) dX1_giveNames_47
    · refine bi_const (n := 0) zx zb dX1_giveNames_17 ?_
      refine lv_istore_n (lv' := [(3, .int (iI 0)), (0, .ref (g.1 8)), (1, .int (iI ((k : Nat) : Int))), (2, .int (iI v))]) zx zb dX1_giveNames_18 rfl hl (by decide) rfl (fun ls hl => ?_)
      exact L19 _ k 0 G rfl (by omega) (by omega) (by omega) (by exact hG) (by rw [hR, nm_in (by omega)]) _ _ hH ls (lv_sub hl [1, 2, 3, 0] rfl)
  obtain ⟨H, hHe⟩ : ∃ H : Heap, H = s.heap := ⟨_, rfl⟩
  rw [show (Hp g S s s.heap []) = Hp g S s H [] by rw [hHe]] at hH
  rw [← hHe]
  refine lv_aload_n zx zb dX1_giveNames_0 rfl (lv_at hl 0 rfl) ?_
  refine gf_X1_18 C0 hH dX1_giveNames_1 ?_
  refine bi_const (n := (-1)) zx zb dX1_giveNames_4 ?_
  refine csN (rest := []) (As := [.ref (g.1 11), .int (iI (-1))]) C0 hH (c_J7_fill_53178 l g S (-1)) kw_X1_21 ky_J7_fill_53178 ⟨Nat.le_of_ble_eq_true rfl, Nat.le_of_ble_eq_true rfl⟩ ⟨Nat.zero_le _, Nat.zero_le _⟩ rfl hl.1 rfl (Nat.le_of_ble_eq_true rfl) dX1_giveNames_5 (fun H locs hH => ?_)
  refine bi_const (n := 0) zx zb dX1_giveNames_8 ?_
  refine lv_istore_n (lv' := [(1, .int (iI 0)), (0, .ref (g.1 8))]) zx zb dX1_giveNames_9 rfl hl (by decide) rfl (fun ls hl => ?_)
  refine bi_bip (n := 6) zx zb dX1_giveNames_10 (by decide) ?_
  refine lv_istore_n (lv' := [(2, .int (iI 6)), (1, .int (iI 0)), (0, .ref (g.1 8))]) zx zb dX1_giveNames_12 rfl hl (by decide) rfl (fun ls hl => ?_)
  exact L13 _ 0 6 (fillA 8 (-1) (S 11)) rfl (by omega) (by omega) (by intro j h0 h1; unfold fillA; rw [if_pos ⟨h0, h1⟩]; omega) (by rfl) _ _ hH ls (lv_sub hl [2, 1, 0] rfl)
set_option maxRecDepth 100000 in
set_option maxHeartbeats 4000000 in
theorem c_X1_replace (l : Launch) (g : gT) (S : gSt) (v f n : Int) (hv : 0 ≤ v ∧ v < 6) (hf : 0 ≤ f ∧ f < 8) (hn : -1 ≤ n ∧ n < 10) (h9 : ∀ j : Int, 0 ≤ j → j < 48 → -1 ≤ S 9 j ∧ S 9 j < 10) (hT : ∀ j : Int, 0 ≤ j → j < 80 → -7 ≤ S 10 j ∧ S 10 j ≤ 7) : MetG l g yX1_replace cX1_replace 6 (some .int) 2 48 [.ref (g.1 8), .int (iI v), .int (iI f), .int (iI n)] S (some (.int (iI (S 9 (v * 8 + f))))) (rpS S v f n) := by
  refine bodyG (by decide +kernel) (Nat.le_of_ble_eq_true rfl) ?_
  intro p e s m args below meth c ls C0 hret hlk hl hH
  have zx := C0.1
  have zb := C0.2.1
  have hl : lv_has ls 6 [(0, .ref (g.1 8)), (1, .int (iI v)), (2, .int (iI f)), (3, .int (iI n))] := hl
  obtain ⟨H, hHe⟩ : ∃ H : Heap, H = s.heap := ⟨_, rfl⟩
  rw [show (Hp g S s s.heap []) = Hp g S s H [] by rw [hHe]] at hH
  rw [← hHe]
  refine lv_iload_n zx zb dX1_replace_0 rfl (lv_at hl 1 rfl) ?_
  refine bi_bip (n := 8) zx zb dX1_replace_1 (by decide) ?_
  refine bi_mul zx zb dX1_replace_3 ?_
  refine lv_iload_n zx zb dX1_replace_4 rfl (lv_at hl 2 rfl) ?_
  refine bi_add zx zb dX1_replace_5 ?_
  refine lv_istore (lv' := [(4, .int (iI ((v * 8) + f))), (0, .ref (g.1 8)), (1, .int (iI v)), (2, .int (iI f)), (3, .int (iI n))]) zx zb dX1_replace_6 hl (by decide) rfl (fun ls hl => ?_)
  refine lv_aload_n zx zb dX1_replace_8 rfl (lv_at hl 1 rfl) ?_
  refine gf_X1_9 C0 hH dX1_replace_9 ?_
  refine lv_iload zx zb dX1_replace_12 (lv_at hl 0 rfl) ?_
  have hb9 := h9 (v * 8 + f) (by omega) (by omega)
  refine al_9 C0 hH (by omega) (by omega) dX1_replace_14 ?_
  refine lv_istore (lv' := [(5, .int (iI (S 9 ((v * 8) + f)))), (4, .int (iI ((v * 8) + f))), (0, .ref (g.1 8)), (1, .int (iI v)), (2, .int (iI f)), (3, .int (iI n))]) zx zb dX1_replace_15 hl (by decide) rfl (fun ls hl => ?_)
  refine lv_aload_n zx zb dX1_replace_17 rfl (lv_at hl 2 rfl) ?_
  refine gf_X1_9 C0 hH dX1_replace_18 ?_
  refine lv_iload zx zb dX1_replace_21 (lv_at hl 1 rfl) ?_
  refine lv_iload_n zx zb dX1_replace_23 rfl (lv_at hl 5 rfl) ?_
  refine as_9 C0 hH (by omega) (by omega) dX1_replace_24 (fun H locs hH => ?_)
  refine lv_aload_n zx zb dX1_replace_25 rfl (lv_at hl 2 rfl) ?_
  refine lv_iload_n zx zb dX1_replace_26 rfl (lv_at hl 4 rfl) ?_
  refine lv_iload zx zb dX1_replace_27 (lv_at hl 0 rfl) ?_
  refine bi_const (n := (-1)) zx zb dX1_replace_29 ?_
  refine cvN (rest := []) (As := [.int (iI f), .int (iI (S 9 ((v * 8) + f))), .int (iI (-1))]) (b := g.1 8) C0 hH (c_X1_count l g (st S 9 ((v * 8) + f) n) f (S 9 ((v * 8) + f)) (-1) (by omega) (by omega)) kw_X1_27 ky_X1_count ⟨Nat.le_of_ble_eq_true rfl, Nat.le_of_ble_eq_true rfl⟩ ⟨Nat.zero_le _, Nat.zero_le _⟩ 8 rfl rfl rfl hl.1 rfl (Nat.le_of_ble_eq_true rfl) dX1_replace_30 (fun H locs hH => ?_)
  refine lv_aload_n zx zb dX1_replace_33 rfl (lv_at hl 2 rfl) ?_
  refine lv_iload_n zx zb dX1_replace_34 rfl (lv_at hl 4 rfl) ?_
  refine lv_iload_n zx zb dX1_replace_35 rfl (lv_at hl 5 rfl) ?_
  refine bi_const (n := 1) zx zb dX1_replace_36 ?_
  have hT1 := fun j => cnS_10 (st S 9 (v * 8 + f) n) f (S 9 (v * 8 + f)) (-1) (by omega) j 7 (fun j h0 h1 => hT j h0 h1)
  refine cvN (rest := []) (As := [.int (iI f), .int (iI n), .int (iI 1)]) (b := g.1 8) C0 hH (c_X1_count l g (cnS (st S 9 ((v * 8) + f) n) f (S 9 ((v * 8) + f)) (-1)) f n 1 (by omega) (by omega)) kw_X1_27 ky_X1_count ⟨Nat.le_of_ble_eq_true rfl, Nat.le_of_ble_eq_true rfl⟩ ⟨Nat.zero_le _, Nat.zero_le _⟩ 8 rfl rfl rfl hl.1 rfl (Nat.le_of_ble_eq_true rfl) dX1_replace_37 (fun H locs hH => ?_)
  have hT2 := fun j => cnS_10 (cnS (st S 9 (v * 8 + f) n) f (S 9 (v * 8 + f)) (-1)) f n 1 (by omega) j 8 (fun j h0 h1 => hT1 j h0 h1)
  refine lv_aload_n zx zb dX1_replace_40 rfl (lv_at hl 2 rfl) ?_
  refine cvN (rest := []) (As := []) (b := g.1 8) C0 hH (c_X1_giveNames l g (cnS (cnS (st S 9 ((v * 8) + f) n) f (S 9 ((v * 8) + f)) (-1)) f n 1) (fun j h0 h1 => by have h2 := hT2 j h0 h1; omega)) kw_X1_31 ky_X1_giveNames ⟨Nat.le_of_ble_eq_true rfl, Nat.le_of_ble_eq_true rfl⟩ ⟨Nat.zero_le _, Nat.zero_le _⟩ 8 rfl rfl rfl hl.1 rfl (Nat.le_of_ble_eq_true rfl) dX1_replace_41 (fun H locs hH => ?_)
  refine lv_iload zx zb dX1_replace_44 (lv_at hl 0 rfl) ?_
  exact retI C0 hret hlk hH (by rfl) (rfl) dX1_replace_46
end
section
set_option maxRecDepth 100000 in
set_option maxHeartbeats 4000000 in
theorem c_X6_needStar (l : Launch) (g : gT) (S : gSt) (a : Int) (hn1 : 0 ≤ S 1 0 ∧ S 1 0 ≤ 24) (hok : 0 ≤ a ∧ a < S 1 0) : MetG l g yX6_needStar cX6_needStar 2 none 0 0 [.ref (g.1 0), .int (iI a)] S none S := by
  refine bodyG (by decide +kernel) (Nat.le_of_ble_eq_true rfl) ?_
  intro p e s m args below meth c ls C0 hret hlk hl hH
  have zx := C0.1
  have zb := C0.2.1
  have hl : lv_has ls 2 [(0, .ref (g.1 0)), (1, .int (iI a))] := hl
  obtain ⟨H, hHe⟩ : ∃ H : Heap, H = s.heap := ⟨_, rfl⟩
  rw [show (Hp g S s s.heap []) = Hp g S s H [] by rw [hHe]] at hH
  rw [← hHe]
  refine lv_iload_n zx zb dX6_needStar_0 rfl (lv_at hl 1 rfl) ?_
  refine bz_lt (tgt := 15) zx zb dX6_needStar_1 (by decide) ⟨by omega, by omega⟩ (fun zq1 => ?_) (fun zq1 => ?_)
  · exact absurd zq1 (by omega)
  · refine lv_iload_n zx zb dX6_needStar_4 rfl (lv_at hl 1 rfl) ?_
    refine lv_aload_n zx zb dX6_needStar_5 rfl (lv_at hl 0 rfl) ?_
    refine gf_X6_12 C0 hH dX6_needStar_6 ?_
    refine gf_X6_48 C0 hH dX6_needStar_9 ?_
    refine bq_lt (tgt := 25) zx zb dX6_needStar_12 (by decide) ⟨by omega, by omega⟩ ⟨by omega, by omega⟩ (fun zq12 => ?_) (fun zq12 => ?_)
    · exact retV C0 hret hlk hH (rfl) dX6_needStar_25
    · exact absurd zq12 (by omega)
set_option maxRecDepth 100000 in
set_option maxHeartbeats 4000000 in
theorem x_X6_needStar (l : Launch) (g : gT) (S : gSt) (a : Int) (hn1 : 0 ≤ S 1 0 ∧ S 1 0 ≤ 24) (hr0 : -2147483648 ≤ a ∧ a < 2147483648) (hbad : ¬(0 ≤ a ∧ a < S 1 0)) (hfl : l.stackTraces = false) : ThrG l g yX6_needStar cX6_needStar 2 none 6 85 [.ref (g.1 0), .int (iI a)] S "java/lang/IndexOutOfBoundsException" S := by
  refine bodyX (by decide +kernel) (Nat.le_of_ble_eq_true rfl) ?_
  intro p e s m args below meth c ls C0 htab hlk hl hH
  have zx := C0.1
  have zb := C0.2.1
  have hl : lv_has ls 2 [(0, .ref (g.1 0)), (1, .int (iI a))] := hl
  obtain ⟨H, hHe⟩ : ∃ H : Heap, H = s.heap := ⟨_, rfl⟩
  rw [show (Hp g S s s.heap []) = Hp g S s H [] by rw [hHe]] at hH
  rw [← hHe]
  refine lv_iload_n zx zb dX6_needStar_0 rfl (lv_at hl 1 rfl) ?_
  refine bz_lt (tgt := 15) zx zb dX6_needStar_1 (by decide) ⟨by omega, by omega⟩ (fun zq1 => ?_) (fun zq1 => ?_)
  · exact thG (text := "no such star") (names := ["java/lang/RuntimeException", "java/lang/Exception"]) hfl C0 htab hlk hH rfl (by decide +kernel) (by decide +kernel) (gm 370 (by decide +kernel) rfl) (gm 51 (by decide +kernel) rfl) (List.mem_of_getElem? (i := 379) (by decide +kernel)) (atS_IOE C0.2.2.2.2.1) gdS_IOE hl.1 dX6_needStar_15 dX6_needStar_18 dX6_needStar_19 dX6_needStar_21 dX6_needStar_24 (by decide) (Nat.le_of_ble_eq_true rfl) (by decide) (by decide)
  · refine lv_iload_n zx zb dX6_needStar_4 rfl (lv_at hl 1 rfl) ?_
    refine lv_aload_n zx zb dX6_needStar_5 rfl (lv_at hl 0 rfl) ?_
    refine gf_X6_12 C0 hH dX6_needStar_6 ?_
    refine gf_X6_48 C0 hH dX6_needStar_9 ?_
    refine bq_lt (tgt := 25) zx zb dX6_needStar_12 (by decide) ⟨by omega, by omega⟩ ⟨by omega, by omega⟩ (fun zq12 => ?_) (fun zq12 => ?_)
    · exact absurd zq12 (by omega)
    · exact thG (text := "no such star") (names := ["java/lang/RuntimeException", "java/lang/Exception"]) hfl C0 htab hlk hH rfl (by decide +kernel) (by decide +kernel) (gm 370 (by decide +kernel) rfl) (gm 51 (by decide +kernel) rfl) (List.mem_of_getElem? (i := 379) (by decide +kernel)) (atS_IOE C0.2.2.2.2.1) gdS_IOE hl.1 dX6_needStar_15 dX6_needStar_18 dX6_needStar_19 dX6_needStar_21 dX6_needStar_24 (by decide) (Nat.le_of_ble_eq_true rfl) (by decide) (by decide)
set_option maxRecDepth 100000 in
set_option maxHeartbeats 4000000 in
theorem c_X6_needFigure (l : Launch) (g : gT) (S : gSt) (a : Int) (hnf : 0 ≤ S 4 0 ∧ S 4 0 ≤ 8) (hok : 0 ≤ a ∧ a < S 4 0) : MetG l g yX6_needFigure cX6_needFigure 2 none 0 0 [.ref (g.1 0), .int (iI a)] S none S := by
  refine bodyG (by decide +kernel) (Nat.le_of_ble_eq_true rfl) ?_
  intro p e s m args below meth c ls C0 hret hlk hl hH
  have zx := C0.1
  have zb := C0.2.1
  have hl : lv_has ls 2 [(0, .ref (g.1 0)), (1, .int (iI a))] := hl
  obtain ⟨H, hHe⟩ : ∃ H : Heap, H = s.heap := ⟨_, rfl⟩
  rw [show (Hp g S s s.heap []) = Hp g S s H [] by rw [hHe]] at hH
  rw [← hHe]
  refine lv_iload_n zx zb dX6_needFigure_0 rfl (lv_at hl 1 rfl) ?_
  refine bz_lt (tgt := 15) zx zb dX6_needFigure_1 (by decide) ⟨by omega, by omega⟩ (fun zq1 => ?_) (fun zq1 => ?_)
  · exact absurd zq1 (by omega)
  · refine lv_iload_n zx zb dX6_needFigure_4 rfl (lv_at hl 1 rfl) ?_
    refine lv_aload_n zx zb dX6_needFigure_5 rfl (lv_at hl 0 rfl) ?_
    refine gf_X6_19 C0 hH dX6_needFigure_6 ?_
    refine gf_X6_86 C0 hH dX6_needFigure_9 ?_
    refine bq_lt (tgt := 25) zx zb dX6_needFigure_12 (by decide) ⟨by omega, by omega⟩ ⟨by omega, by omega⟩ (fun zq12 => ?_) (fun zq12 => ?_)
    · exact retV C0 hret hlk hH (rfl) dX6_needFigure_25
    · exact absurd zq12 (by omega)
set_option maxRecDepth 100000 in
set_option maxHeartbeats 4000000 in
theorem x_X6_needFigure (l : Launch) (g : gT) (S : gSt) (a : Int) (hnf : 0 ≤ S 4 0 ∧ S 4 0 ≤ 8) (hr0 : -2147483648 ≤ a ∧ a < 2147483648) (hbad : ¬(0 ≤ a ∧ a < S 4 0)) (hfl : l.stackTraces = false) : ThrG l g yX6_needFigure cX6_needFigure 2 none 6 85 [.ref (g.1 0), .int (iI a)] S "java/lang/IndexOutOfBoundsException" S := by
  refine bodyX (by decide +kernel) (Nat.le_of_ble_eq_true rfl) ?_
  intro p e s m args below meth c ls C0 htab hlk hl hH
  have zx := C0.1
  have zb := C0.2.1
  have hl : lv_has ls 2 [(0, .ref (g.1 0)), (1, .int (iI a))] := hl
  obtain ⟨H, hHe⟩ : ∃ H : Heap, H = s.heap := ⟨_, rfl⟩
  rw [show (Hp g S s s.heap []) = Hp g S s H [] by rw [hHe]] at hH
  rw [← hHe]
  refine lv_iload_n zx zb dX6_needFigure_0 rfl (lv_at hl 1 rfl) ?_
  refine bz_lt (tgt := 15) zx zb dX6_needFigure_1 (by decide) ⟨by omega, by omega⟩ (fun zq1 => ?_) (fun zq1 => ?_)
  · exact thG (text := "no such figure") (names := ["java/lang/RuntimeException", "java/lang/Exception"]) hfl C0 htab hlk hH rfl (by decide +kernel) (by decide +kernel) (gm 370 (by decide +kernel) rfl) (gm 51 (by decide +kernel) rfl) (List.mem_of_getElem? (i := 415) (by decide +kernel)) (atS_IOE C0.2.2.2.2.1) gdS_IOE hl.1 dX6_needFigure_15 dX6_needFigure_18 dX6_needFigure_19 dX6_needFigure_21 dX6_needFigure_24 (by decide) (Nat.le_of_ble_eq_true rfl) (by decide) (by decide)
  · refine lv_iload_n zx zb dX6_needFigure_4 rfl (lv_at hl 1 rfl) ?_
    refine lv_aload_n zx zb dX6_needFigure_5 rfl (lv_at hl 0 rfl) ?_
    refine gf_X6_19 C0 hH dX6_needFigure_6 ?_
    refine gf_X6_86 C0 hH dX6_needFigure_9 ?_
    refine bq_lt (tgt := 25) zx zb dX6_needFigure_12 (by decide) ⟨by omega, by omega⟩ ⟨by omega, by omega⟩ (fun zq12 => ?_) (fun zq12 => ?_)
    · exact absurd zq12 (by omega)
    · exact thG (text := "no such figure") (names := ["java/lang/RuntimeException", "java/lang/Exception"]) hfl C0 htab hlk hH rfl (by decide +kernel) (by decide +kernel) (gm 370 (by decide +kernel) rfl) (gm 51 (by decide +kernel) rfl) (List.mem_of_getElem? (i := 415) (by decide +kernel)) (atS_IOE C0.2.2.2.2.1) gdS_IOE hl.1 dX6_needFigure_15 dX6_needFigure_18 dX6_needFigure_19 dX6_needFigure_21 dX6_needFigure_24 (by decide) (Nat.le_of_ble_eq_true rfl) (by decide) (by decide)
set_option maxRecDepth 100000 in
set_option maxHeartbeats 4000000 in
theorem c_X6_needPlace (l : Launch) (g : gT) (S : gSt) (a u : Int) (hok : (0 ≤ a ∧ a < 360) ∧ (-90 ≤ u ∧ u ≤ 90)) : MetG l g yX6_needPlace cX6_needPlace 2 none 0 0 [.int (iI a), .int (iI u)] S none S := by
  refine bodyG (by decide +kernel) (Nat.le_of_ble_eq_true rfl) ?_
  intro p e s m args below meth c ls C0 hret hlk hl hH
  have zx := C0.1
  have zb := C0.2.1
  have hl : lv_has ls 2 [(0, .int (iI a)), (1, .int (iI u))] := hl
  obtain ⟨H, hHe⟩ : ∃ H : Heap, H = s.heap := ⟨_, rfl⟩
  rw [show (Hp g S s s.heap []) = Hp g S s H [] by rw [hHe]] at hH
  rw [← hHe]
  refine lv_iload_n zx zb dX6_needPlace_0 rfl (lv_at hl 0 rfl) ?_
  refine bz_lt (tgt := 11) zx zb dX6_needPlace_1 (by decide) ⟨by omega, by omega⟩ (fun zq1 => ?_) (fun zq1 => ?_)
  · exact absurd zq1 (by omega)
  · refine lv_iload_n zx zb dX6_needPlace_4 rfl (lv_at hl 0 rfl) ?_
    refine bi_sip (n := 360) zx zb dX6_needPlace_5 (by decide) ?_
    refine bq_lt (tgt := 21) zx zb dX6_needPlace_8 (by decide) ⟨by omega, by omega⟩ ⟨by omega, by omega⟩ (fun zq8 => ?_) (fun zq8 => ?_)
    · refine lv_iload_n zx zb dX6_needPlace_21 rfl (lv_at hl 1 rfl) ?_
      refine bi_bip (n := (-90)) zx zb dX6_needPlace_22 (by decide) ?_
      refine bq_lt (tgt := 33) zx zb dX6_needPlace_24 (by decide) ⟨by omega, by omega⟩ ⟨by omega, by omega⟩ (fun zq24 => ?_) (fun zq24 => ?_)
      · exact absurd zq24 (by omega)
      · refine lv_iload_n zx zb dX6_needPlace_27 rfl (lv_at hl 1 rfl) ?_
        refine bi_bip (n := 90) zx zb dX6_needPlace_28 (by decide) ?_
        refine bq_le (tgt := 43) zx zb dX6_needPlace_30 (by decide) ⟨by omega, by omega⟩ ⟨by omega, by omega⟩ (fun zq30 => ?_) (fun zq30 => ?_)
        · exact retV C0 hret hlk hH (rfl) dX6_needPlace_43
        · exact absurd zq30 (by omega)
    · exact absurd zq8 (by omega)
set_option maxRecDepth 100000 in
set_option maxHeartbeats 4000000 in
theorem x_X6_needPlace (l : Launch) (g : gT) (S : gSt) (a u : Int) (hr0 : -2147483648 ≤ a ∧ a < 2147483648) (hr1 : -2147483648 ≤ u ∧ u < 2147483648) (hbad : ¬((0 ≤ a ∧ a < 360) ∧ (-90 ≤ u ∧ u ≤ 90))) (hfl : l.stackTraces = false) : ThrG l g yX6_needPlace cX6_needPlace 2 none 6 85 [.int (iI a), .int (iI u)] S "java/lang/IllegalArgumentException" S := by
  refine bodyX (by decide +kernel) (Nat.le_of_ble_eq_true rfl) ?_
  intro p e s m args below meth c ls C0 htab hlk hl hH
  have zx := C0.1
  have zb := C0.2.1
  have hl : lv_has ls 2 [(0, .int (iI a)), (1, .int (iI u))] := hl
  obtain ⟨H, hHe⟩ : ∃ H : Heap, H = s.heap := ⟨_, rfl⟩
  rw [show (Hp g S s s.heap []) = Hp g S s H [] by rw [hHe]] at hH
  rw [← hHe]
  refine lv_iload_n zx zb dX6_needPlace_0 rfl (lv_at hl 0 rfl) ?_
  refine bz_lt (tgt := 11) zx zb dX6_needPlace_1 (by decide) ⟨by omega, by omega⟩ (fun zq1 => ?_) (fun zq1 => ?_)
  · exact thG (text := "across is 0 to 359") (names := ["java/lang/RuntimeException", "java/lang/Exception"]) hfl C0 htab hlk hH rfl (by decide +kernel) (by decide +kernel) (gm 265 (by decide +kernel) rfl) (gm 49 (by decide +kernel) rfl) (List.mem_of_getElem? (i := 306) (by decide +kernel)) (atS_IAE C0.2.2.2.2.1) gdS_IAE hl.1 dX6_needPlace_11 dX6_needPlace_14 dX6_needPlace_15 dX6_needPlace_17 dX6_needPlace_20 (by decide) (Nat.le_of_ble_eq_true rfl) (by decide) (by decide)
  · refine lv_iload_n zx zb dX6_needPlace_4 rfl (lv_at hl 0 rfl) ?_
    refine bi_sip (n := 360) zx zb dX6_needPlace_5 (by decide) ?_
    refine bq_lt (tgt := 21) zx zb dX6_needPlace_8 (by decide) ⟨by omega, by omega⟩ ⟨by omega, by omega⟩ (fun zq8 => ?_) (fun zq8 => ?_)
    · refine lv_iload_n zx zb dX6_needPlace_21 rfl (lv_at hl 1 rfl) ?_
      refine bi_bip (n := (-90)) zx zb dX6_needPlace_22 (by decide) ?_
      refine bq_lt (tgt := 33) zx zb dX6_needPlace_24 (by decide) ⟨by omega, by omega⟩ ⟨by omega, by omega⟩ (fun zq24 => ?_) (fun zq24 => ?_)
      · exact thG (text := "up is -90 to 90") (names := ["java/lang/RuntimeException", "java/lang/Exception"]) hfl C0 htab hlk hH rfl (by decide +kernel) (by decide +kernel) (gm 265 (by decide +kernel) rfl) (gm 49 (by decide +kernel) rfl) (List.mem_of_getElem? (i := 333) (by decide +kernel)) (atS_IAE C0.2.2.2.2.1) gdS_IAE hl.1 dX6_needPlace_33 dX6_needPlace_36 dX6_needPlace_37 dX6_needPlace_39 dX6_needPlace_42 (by decide) (Nat.le_of_ble_eq_true rfl) (by decide) (by decide)
      · refine lv_iload_n zx zb dX6_needPlace_27 rfl (lv_at hl 1 rfl) ?_
        refine bi_bip (n := 90) zx zb dX6_needPlace_28 (by decide) ?_
        refine bq_le (tgt := 43) zx zb dX6_needPlace_30 (by decide) ⟨by omega, by omega⟩ ⟨by omega, by omega⟩ (fun zq30 => ?_) (fun zq30 => ?_)
        · exact absurd zq30 (by omega)
        · exact thG (text := "up is -90 to 90") (names := ["java/lang/RuntimeException", "java/lang/Exception"]) hfl C0 htab hlk hH rfl (by decide +kernel) (by decide +kernel) (gm 265 (by decide +kernel) rfl) (gm 49 (by decide +kernel) rfl) (List.mem_of_getElem? (i := 333) (by decide +kernel)) (atS_IAE C0.2.2.2.2.1) gdS_IAE hl.1 dX6_needPlace_33 dX6_needPlace_36 dX6_needPlace_37 dX6_needPlace_39 dX6_needPlace_42 (by decide) (Nat.le_of_ble_eq_true rfl) (by decide) (by decide)
    · exact thG (text := "across is 0 to 359") (names := ["java/lang/RuntimeException", "java/lang/Exception"]) hfl C0 htab hlk hH rfl (by decide +kernel) (by decide +kernel) (gm 265 (by decide +kernel) rfl) (gm 49 (by decide +kernel) rfl) (List.mem_of_getElem? (i := 306) (by decide +kernel)) (atS_IAE C0.2.2.2.2.1) gdS_IAE hl.1 dX6_needPlace_11 dX6_needPlace_14 dX6_needPlace_15 dX6_needPlace_17 dX6_needPlace_20 (by decide) (Nat.le_of_ble_eq_true rfl) (by decide) (by decide)
set_option maxRecDepth 100000 in
set_option maxHeartbeats 4000000 in
theorem c_X6_needName (l : Launch) (g : gT) (S : gSt) (a : Int) (hok : 0 ≤ a ∧ a < 10) : MetG l g yX6_needName cX6_needName 1 none 0 0 [.int (iI a)] S none S := by
  refine bodyG (by decide +kernel) (Nat.le_of_ble_eq_true rfl) ?_
  intro p e s m args below meth c ls C0 hret hlk hl hH
  have zx := C0.1
  have zb := C0.2.1
  have hl : lv_has ls 1 [(0, .int (iI a))] := hl
  obtain ⟨H, hHe⟩ : ∃ H : Heap, H = s.heap := ⟨_, rfl⟩
  rw [show (Hp g S s s.heap []) = Hp g S s H [] by rw [hHe]] at hH
  rw [← hHe]
  refine lv_iload_n zx zb dX6_needName_0 rfl (lv_at hl 0 rfl) ?_
  refine bz_lt (tgt := 10) zx zb dX6_needName_1 (by decide) ⟨by omega, by omega⟩ (fun zq1 => ?_) (fun zq1 => ?_)
  · exact absurd zq1 (by omega)
  · refine lv_iload_n zx zb dX6_needName_4 rfl (lv_at hl 0 rfl) ?_
    refine bi_bip (n := 10) zx zb dX6_needName_5 (by decide) ?_
    refine bq_lt (tgt := 20) zx zb dX6_needName_7 (by decide) ⟨by omega, by omega⟩ ⟨by omega, by omega⟩ (fun zq7 => ?_) (fun zq7 => ?_)
    · exact retV C0 hret hlk hH (rfl) dX6_needName_20
    · exact absurd zq7 (by omega)
set_option maxRecDepth 100000 in
set_option maxHeartbeats 4000000 in
theorem x_X6_needName (l : Launch) (g : gT) (S : gSt) (a : Int) (hr0 : -2147483648 ≤ a ∧ a < 2147483648) (hbad : ¬(0 ≤ a ∧ a < 10)) (hfl : l.stackTraces = false) : ThrG l g yX6_needName cX6_needName 1 none 6 85 [.int (iI a)] S "java/lang/IllegalArgumentException" S := by
  refine bodyX (by decide +kernel) (Nat.le_of_ble_eq_true rfl) ?_
  intro p e s m args below meth c ls C0 htab hlk hl hH
  have zx := C0.1
  have zb := C0.2.1
  have hl : lv_has ls 1 [(0, .int (iI a))] := hl
  obtain ⟨H, hHe⟩ : ∃ H : Heap, H = s.heap := ⟨_, rfl⟩
  rw [show (Hp g S s s.heap []) = Hp g S s H [] by rw [hHe]] at hH
  rw [← hHe]
  refine lv_iload_n zx zb dX6_needName_0 rfl (lv_at hl 0 rfl) ?_
  refine bz_lt (tgt := 10) zx zb dX6_needName_1 (by decide) ⟨by omega, by omega⟩ (fun zq1 => ?_) (fun zq1 => ?_)
  · exact thG (text := "a name is 0 to 9") (names := ["java/lang/RuntimeException", "java/lang/Exception"]) hfl C0 htab hlk hH rfl (by decide +kernel) (by decide +kernel) (gm 265 (by decide +kernel) rfl) (gm 49 (by decide +kernel) rfl) (List.mem_of_getElem? (i := 535) (by decide +kernel)) (atS_IAE C0.2.2.2.2.1) gdS_IAE hl.1 dX6_needName_10 dX6_needName_13 dX6_needName_14 dX6_needName_16 dX6_needName_19 (by decide) (Nat.le_of_ble_eq_true rfl) (by decide) (by decide)
  · refine lv_iload_n zx zb dX6_needName_4 rfl (lv_at hl 0 rfl) ?_
    refine bi_bip (n := 10) zx zb dX6_needName_5 (by decide) ?_
    refine bq_lt (tgt := 20) zx zb dX6_needName_7 (by decide) ⟨by omega, by omega⟩ ⟨by omega, by omega⟩ (fun zq7 => ?_) (fun zq7 => ?_)
    · exact absurd zq7 (by omega)
    · exact thG (text := "a name is 0 to 9") (names := ["java/lang/RuntimeException", "java/lang/Exception"]) hfl C0 htab hlk hH rfl (by decide +kernel) (by decide +kernel) (gm 265 (by decide +kernel) rfl) (gm 49 (by decide +kernel) rfl) (List.mem_of_getElem? (i := 535) (by decide +kernel)) (atS_IAE C0.2.2.2.2.1) gdS_IAE hl.1 dX6_needName_10 dX6_needName_13 dX6_needName_14 dX6_needName_16 dX6_needName_19 (by decide) (Nat.le_of_ble_eq_true rfl) (by decide) (by decide)
set_option maxRecDepth 100000 in
set_option maxHeartbeats 4000000 in
theorem c_X6_needLatitude (l : Launch) (g : gT) (S : gSt) (a : Int) (hok : -90 ≤ a ∧ a ≤ 90) : MetG l g yX6_needLatitude cX6_needLatitude 1 none 0 0 [.int (iI a)] S none S := by
  refine bodyG (by decide +kernel) (Nat.le_of_ble_eq_true rfl) ?_
  intro p e s m args below meth c ls C0 hret hlk hl hH
  have zx := C0.1
  have zb := C0.2.1
  have hl : lv_has ls 1 [(0, .int (iI a))] := hl
  obtain ⟨H, hHe⟩ : ∃ H : Heap, H = s.heap := ⟨_, rfl⟩
  rw [show (Hp g S s s.heap []) = Hp g S s H [] by rw [hHe]] at hH
  rw [← hHe]
  refine lv_iload_n zx zb dX6_needLatitude_0 rfl (lv_at hl 0 rfl) ?_
  refine bi_bip (n := (-90)) zx zb dX6_needLatitude_1 (by decide) ?_
  refine bq_lt (tgt := 12) zx zb dX6_needLatitude_3 (by decide) ⟨by omega, by omega⟩ ⟨by omega, by omega⟩ (fun zq3 => ?_) (fun zq3 => ?_)
  · exact absurd zq3 (by omega)
  · refine lv_iload_n zx zb dX6_needLatitude_6 rfl (lv_at hl 0 rfl) ?_
    refine bi_bip (n := 90) zx zb dX6_needLatitude_7 (by decide) ?_
    refine bq_le (tgt := 22) zx zb dX6_needLatitude_9 (by decide) ⟨by omega, by omega⟩ ⟨by omega, by omega⟩ (fun zq9 => ?_) (fun zq9 => ?_)
    · exact retV C0 hret hlk hH (rfl) dX6_needLatitude_22
    · exact absurd zq9 (by omega)
set_option maxRecDepth 100000 in
set_option maxHeartbeats 4000000 in
theorem x_X6_needLatitude (l : Launch) (g : gT) (S : gSt) (a : Int) (hr0 : -2147483648 ≤ a ∧ a < 2147483648) (hbad : ¬(-90 ≤ a ∧ a ≤ 90)) (hfl : l.stackTraces = false) : ThrG l g yX6_needLatitude cX6_needLatitude 1 none 6 85 [.int (iI a)] S "java/lang/IllegalArgumentException" S := by
  refine bodyX (by decide +kernel) (Nat.le_of_ble_eq_true rfl) ?_
  intro p e s m args below meth c ls C0 htab hlk hl hH
  have zx := C0.1
  have zb := C0.2.1
  have hl : lv_has ls 1 [(0, .int (iI a))] := hl
  obtain ⟨H, hHe⟩ : ∃ H : Heap, H = s.heap := ⟨_, rfl⟩
  rw [show (Hp g S s s.heap []) = Hp g S s H [] by rw [hHe]] at hH
  rw [← hHe]
  refine lv_iload_n zx zb dX6_needLatitude_0 rfl (lv_at hl 0 rfl) ?_
  refine bi_bip (n := (-90)) zx zb dX6_needLatitude_1 (by decide) ?_
  refine bq_lt (tgt := 12) zx zb dX6_needLatitude_3 (by decide) ⟨by omega, by omega⟩ ⟨by omega, by omega⟩ (fun zq3 => ?_) (fun zq3 => ?_)
  · exact thG (text := "a latitude is -90 to 90") (names := ["java/lang/RuntimeException", "java/lang/Exception"]) hfl C0 htab hlk hH rfl (by decide +kernel) (by decide +kernel) (gm 265 (by decide +kernel) rfl) (gm 49 (by decide +kernel) rfl) (List.mem_of_getElem? (i := 576) (by decide +kernel)) (atS_IAE C0.2.2.2.2.1) gdS_IAE hl.1 dX6_needLatitude_12 dX6_needLatitude_15 dX6_needLatitude_16 dX6_needLatitude_18 dX6_needLatitude_21 (by decide) (Nat.le_of_ble_eq_true rfl) (by decide) (by decide)
  · refine lv_iload_n zx zb dX6_needLatitude_6 rfl (lv_at hl 0 rfl) ?_
    refine bi_bip (n := 90) zx zb dX6_needLatitude_7 (by decide) ?_
    refine bq_le (tgt := 22) zx zb dX6_needLatitude_9 (by decide) ⟨by omega, by omega⟩ ⟨by omega, by omega⟩ (fun zq9 => ?_) (fun zq9 => ?_)
    · exact absurd zq9 (by omega)
    · exact thG (text := "a latitude is -90 to 90") (names := ["java/lang/RuntimeException", "java/lang/Exception"]) hfl C0 htab hlk hH rfl (by decide +kernel) (by decide +kernel) (gm 265 (by decide +kernel) rfl) (gm 49 (by decide +kernel) rfl) (List.mem_of_getElem? (i := 576) (by decide +kernel)) (atS_IAE C0.2.2.2.2.1) gdS_IAE hl.1 dX6_needLatitude_12 dX6_needLatitude_15 dX6_needLatitude_16 dX6_needLatitude_18 dX6_needLatitude_21 (by decide) (Nat.le_of_ble_eq_true rfl) (by decide) (by decide)
set_option maxRecDepth 100000 in
set_option maxHeartbeats 4000000 in
theorem c_X6_needDay (l : Launch) (g : gT) (S : gSt) (a : Int) (hok : 0 ≤ a ∧ a < 365) : MetG l g yX6_needDay cX6_needDay 1 none 0 0 [.int (iI a)] S none S := by
  refine bodyG (by decide +kernel) (Nat.le_of_ble_eq_true rfl) ?_
  intro p e s m args below meth c ls C0 hret hlk hl hH
  have zx := C0.1
  have zb := C0.2.1
  have hl : lv_has ls 1 [(0, .int (iI a))] := hl
  obtain ⟨H, hHe⟩ : ∃ H : Heap, H = s.heap := ⟨_, rfl⟩
  rw [show (Hp g S s s.heap []) = Hp g S s H [] by rw [hHe]] at hH
  rw [← hHe]
  refine lv_iload_n zx zb dX6_needDay_0 rfl (lv_at hl 0 rfl) ?_
  refine bz_lt (tgt := 11) zx zb dX6_needDay_1 (by decide) ⟨by omega, by omega⟩ (fun zq1 => ?_) (fun zq1 => ?_)
  · exact absurd zq1 (by omega)
  · refine lv_iload_n zx zb dX6_needDay_4 rfl (lv_at hl 0 rfl) ?_
    refine bi_sip (n := 365) zx zb dX6_needDay_5 (by decide) ?_
    refine bq_lt (tgt := 21) zx zb dX6_needDay_8 (by decide) ⟨by omega, by omega⟩ ⟨by omega, by omega⟩ (fun zq8 => ?_) (fun zq8 => ?_)
    · exact retV C0 hret hlk hH (rfl) dX6_needDay_21
    · exact absurd zq8 (by omega)
set_option maxRecDepth 100000 in
set_option maxHeartbeats 4000000 in
theorem x_X6_needDay (l : Launch) (g : gT) (S : gSt) (a : Int) (hr0 : -2147483648 ≤ a ∧ a < 2147483648) (hbad : ¬(0 ≤ a ∧ a < 365)) (hfl : l.stackTraces = false) : ThrG l g yX6_needDay cX6_needDay 1 none 6 85 [.int (iI a)] S "java/lang/IllegalArgumentException" S := by
  refine bodyX (by decide +kernel) (Nat.le_of_ble_eq_true rfl) ?_
  intro p e s m args below meth c ls C0 htab hlk hl hH
  have zx := C0.1
  have zb := C0.2.1
  have hl : lv_has ls 1 [(0, .int (iI a))] := hl
  obtain ⟨H, hHe⟩ : ∃ H : Heap, H = s.heap := ⟨_, rfl⟩
  rw [show (Hp g S s s.heap []) = Hp g S s H [] by rw [hHe]] at hH
  rw [← hHe]
  refine lv_iload_n zx zb dX6_needDay_0 rfl (lv_at hl 0 rfl) ?_
  refine bz_lt (tgt := 11) zx zb dX6_needDay_1 (by decide) ⟨by omega, by omega⟩ (fun zq1 => ?_) (fun zq1 => ?_)
  · exact thG (text := "a day is 0 to 364") (names := ["java/lang/RuntimeException", "java/lang/Exception"]) hfl C0 htab hlk hH rfl (by decide +kernel) (by decide +kernel) (gm 265 (by decide +kernel) rfl) (gm 49 (by decide +kernel) rfl) (List.mem_of_getElem? (i := 580) (by decide +kernel)) (atS_IAE C0.2.2.2.2.1) gdS_IAE hl.1 dX6_needDay_11 dX6_needDay_14 dX6_needDay_15 dX6_needDay_17 dX6_needDay_20 (by decide) (Nat.le_of_ble_eq_true rfl) (by decide) (by decide)
  · refine lv_iload_n zx zb dX6_needDay_4 rfl (lv_at hl 0 rfl) ?_
    refine bi_sip (n := 365) zx zb dX6_needDay_5 (by decide) ?_
    refine bq_lt (tgt := 21) zx zb dX6_needDay_8 (by decide) ⟨by omega, by omega⟩ ⟨by omega, by omega⟩ (fun zq8 => ?_) (fun zq8 => ?_)
    · exact absurd zq8 (by omega)
    · exact thG (text := "a day is 0 to 364") (names := ["java/lang/RuntimeException", "java/lang/Exception"]) hfl C0 htab hlk hH rfl (by decide +kernel) (by decide +kernel) (gm 265 (by decide +kernel) rfl) (gm 49 (by decide +kernel) rfl) (List.mem_of_getElem? (i := 580) (by decide +kernel)) (atS_IAE C0.2.2.2.2.1) gdS_IAE hl.1 dX6_needDay_11 dX6_needDay_14 dX6_needDay_15 dX6_needDay_17 dX6_needDay_20 (by decide) (Nat.le_of_ble_eq_true rfl) (by decide) (by decide)
set_option maxRecDepth 100000 in
set_option maxHeartbeats 4000000 in
theorem c_X6_needHour (l : Launch) (g : gT) (S : gSt) (a : Int) (hok : 0 ≤ a ∧ a < 24) : MetG l g yX6_needHour cX6_needHour 1 none 0 0 [.int (iI a)] S none S := by
  refine bodyG (by decide +kernel) (Nat.le_of_ble_eq_true rfl) ?_
  intro p e s m args below meth c ls C0 hret hlk hl hH
  have zx := C0.1
  have zb := C0.2.1
  have hl : lv_has ls 1 [(0, .int (iI a))] := hl
  obtain ⟨H, hHe⟩ : ∃ H : Heap, H = s.heap := ⟨_, rfl⟩
  rw [show (Hp g S s s.heap []) = Hp g S s H [] by rw [hHe]] at hH
  rw [← hHe]
  refine lv_iload_n zx zb dX6_needHour_0 rfl (lv_at hl 0 rfl) ?_
  refine bz_lt (tgt := 10) zx zb dX6_needHour_1 (by decide) ⟨by omega, by omega⟩ (fun zq1 => ?_) (fun zq1 => ?_)
  · exact absurd zq1 (by omega)
  · refine lv_iload_n zx zb dX6_needHour_4 rfl (lv_at hl 0 rfl) ?_
    refine bi_bip (n := 24) zx zb dX6_needHour_5 (by decide) ?_
    refine bq_lt (tgt := 20) zx zb dX6_needHour_7 (by decide) ⟨by omega, by omega⟩ ⟨by omega, by omega⟩ (fun zq7 => ?_) (fun zq7 => ?_)
    · exact retV C0 hret hlk hH (rfl) dX6_needHour_20
    · exact absurd zq7 (by omega)
set_option maxRecDepth 100000 in
set_option maxHeartbeats 4000000 in
theorem x_X6_needHour (l : Launch) (g : gT) (S : gSt) (a : Int) (hr0 : -2147483648 ≤ a ∧ a < 2147483648) (hbad : ¬(0 ≤ a ∧ a < 24)) (hfl : l.stackTraces = false) : ThrG l g yX6_needHour cX6_needHour 1 none 6 85 [.int (iI a)] S "java/lang/IllegalArgumentException" S := by
  refine bodyX (by decide +kernel) (Nat.le_of_ble_eq_true rfl) ?_
  intro p e s m args below meth c ls C0 htab hlk hl hH
  have zx := C0.1
  have zb := C0.2.1
  have hl : lv_has ls 1 [(0, .int (iI a))] := hl
  obtain ⟨H, hHe⟩ : ∃ H : Heap, H = s.heap := ⟨_, rfl⟩
  rw [show (Hp g S s s.heap []) = Hp g S s H [] by rw [hHe]] at hH
  rw [← hHe]
  refine lv_iload_n zx zb dX6_needHour_0 rfl (lv_at hl 0 rfl) ?_
  refine bz_lt (tgt := 10) zx zb dX6_needHour_1 (by decide) ⟨by omega, by omega⟩ (fun zq1 => ?_) (fun zq1 => ?_)
  · exact thG (text := "an hour is 0 to 23") (names := ["java/lang/RuntimeException", "java/lang/Exception"]) hfl C0 htab hlk hH rfl (by decide +kernel) (by decide +kernel) (gm 265 (by decide +kernel) rfl) (gm 49 (by decide +kernel) rfl) (List.mem_of_getElem? (i := 584) (by decide +kernel)) (atS_IAE C0.2.2.2.2.1) gdS_IAE hl.1 dX6_needHour_10 dX6_needHour_13 dX6_needHour_14 dX6_needHour_16 dX6_needHour_19 (by decide) (Nat.le_of_ble_eq_true rfl) (by decide) (by decide)
  · refine lv_iload_n zx zb dX6_needHour_4 rfl (lv_at hl 0 rfl) ?_
    refine bi_bip (n := 24) zx zb dX6_needHour_5 (by decide) ?_
    refine bq_lt (tgt := 20) zx zb dX6_needHour_7 (by decide) ⟨by omega, by omega⟩ ⟨by omega, by omega⟩ (fun zq7 => ?_) (fun zq7 => ?_)
    · exact absurd zq7 (by omega)
    · exact thG (text := "an hour is 0 to 23") (names := ["java/lang/RuntimeException", "java/lang/Exception"]) hfl C0 htab hlk hH rfl (by decide +kernel) (by decide +kernel) (gm 265 (by decide +kernel) rfl) (gm 49 (by decide +kernel) rfl) (List.mem_of_getElem? (i := 584) (by decide +kernel)) (atS_IAE C0.2.2.2.2.1) gdS_IAE hl.1 dX6_needHour_10 dX6_needHour_13 dX6_needHour_14 dX6_needHour_16 dX6_needHour_19 (by decide) (Nat.le_of_ble_eq_true rfl) (by decide) (by decide)
end
section
set_option maxRecDepth 100000 in
set_option maxHeartbeats 4000000 in
theorem c_X6_skyTurn (l : Launch) (g : gT) (S : gSt) (d h : Int)  : MetG l g yX6_skyTurn cX6_skyTurn 2 (some .int) 0 0 [.int (iI d), .int (iI h)] S (some (.int (iI (15 * h + d)))) S := by
  refine bodyG (by decide +kernel) (Nat.le_of_ble_eq_true rfl) ?_
  intro p e s m args below meth c ls C0 hret hlk hl hH
  have zx := C0.1
  have zb := C0.2.1
  have hl : lv_has ls 2 [(0, .int (iI d)), (1, .int (iI h))] := hl
  obtain ⟨H, hHe⟩ : ∃ H : Heap, H = s.heap := ⟨_, rfl⟩
  rw [show (Hp g S s s.heap []) = Hp g S s H [] by rw [hHe]] at hH
  rw [← hHe]
  refine bi_bip (n := 15) zx zb dX6_skyTurn_0 (by decide) ?_
  refine lv_iload_n zx zb dX6_skyTurn_2 rfl (lv_at hl 1 rfl) ?_
  refine bi_mul zx zb dX6_skyTurn_3 ?_
  refine lv_iload_n zx zb dX6_skyTurn_4 rfl (lv_at hl 0 rfl) ?_
  refine bi_add zx zb dX6_skyTurn_5 ?_
  exact retI C0 hret hlk hH (by rfl) (rfl) dX6_skyTurn_6
set_option maxRecDepth 100000 in
set_option maxHeartbeats 4000000 in
theorem c_X6_lowestHeight (l : Launch) (g : gT) (S : gSt) (f lat t : Int) (hf : 0 ≤ f ∧ f < 8) (hlat : -90 ≤ lat ∧ lat ≤ 90) (ht : 0 ≤ t ∧ t ≤ 1000) (hN : okN (S 5)) (hE : okE (S 5) (S 6)) (hO : okE (S 5) (S 7)) (hC : okC (S 2) (S 3)) : MetG l g yX6_lowestHeight cX6_lowestHeight 8 (some .int) 4 93 [.ref (g.1 0), .int (iI f), .int (iI lat), .int (iI t)] S (some (.int (iI (lwI (S 5) (S 6) (S 7) (S 2) (S 3) f lat t)))) S := by
  refine bodyG (by decide +kernel) (Nat.le_of_ble_eq_true rfl) ?_
  intro p e s m args below meth c ls C0 hret hlk hl hH
  have zx := C0.1
  have zb := C0.2.1
  have hl : lv_has ls 8 [(0, .ref (g.1 0)), (1, .int (iI f)), (2, .int (iI lat)), (3, .int (iI t))] := hl
  have L28 : ∀ (μ : Nat) (i : Int) (a : Int), (S 5 f - i).toNat = μ → (0 ≤ i ∧ i ≤ S 5 f) → (-3000 ≤ a ∧ a ≤ 3000) → (lwI (S 5) (S 6) (S 7) (S 2) (S 3) f lat t = lpF (loQ (hgA (S 2) (S 3) lat t) (S 6) (S 7)) (S 5 f - i).toNat (10 * f + i) a) → ∀ (H : Heap) (locs : List Loc), Hp g S s H locs → ∀ ls : Array Slot, lv_has ls 8 [(0, .ref (g.1 0)), (1, .int (iI f)), (2, .int (iI lat)), (3, .int (iI t)), (4, .int (iI (S 5 f))), (5, .int (iI a)), (6, .int (iI i))] → W p l e { frames := 4, cells := 0, slots := 0, locals := 93 } s m args below meth c H locs 0 0 (MQ below (RetG g (some (.int (iI (lwI (S 5) (S 6) (S 7) (S 2) (S 3) f lat t)))) S) args s 0 0 (oA g)) (F0 m 28 ls []) := by
    refine lpN (fun μ28 ih28 => ?_)
    intro i a hμ28 hi ha hR H locs hH ls hl
    have hn := hN f hf.1 hf.2
    refine lv_iload zx zb dX6_lowestHeight_28 (lv_at hl 6 rfl) ?_
    refine lv_iload zx zb dX6_lowestHeight_30 (lv_at hl 4 rfl) ?_
    refine bq_ge (tgt := 101) zx zb dX6_lowestHeight_32 (by decide) ⟨by omega, by omega⟩ ⟨by omega, by omega⟩ (fun zq32 => ?_) (fun zq32 => ?_)
    · refine lv_iload zx zb dX6_lowestHeight_101 (lv_at hl 5 rfl) ?_
      exact retI C0 hret hlk hH (by rw [hR, lpF_e2 zq32]) (rfl) dX6_lowestHeight_103
    · have he := hE f i hf.1 hf.2 (by omega) (by omega)
      have ho := hO f i hf.1 hf.2 (by omega) (by omega)
      have hb1 := hg_b lat (S 3 (S 6 (10 * f + i))) (t - S 2 (S 6 (10 * f + i)))
      have hb2 := hg_b lat (S 3 (S 7 (10 * f + i))) (t - S 2 (S 7 (10 * f + i)))
      refine lv_iload_n zx zb dX6_lowestHeight_35 rfl (lv_at hl 1 rfl) ?_
      refine lv_iload zx zb dX6_lowestHeight_36 (lv_at hl 6 rfl) ?_
      refine csI (rest := []) (As := [.int (iI f), .int (iI i)]) C0 hH (c_X5_place l g S f i) kw_X6_128 ky_X5_place ⟨Nat.le_of_ble_eq_true rfl, Nat.le_of_ble_eq_true rfl⟩ ⟨Nat.zero_le _, Nat.zero_le _⟩ rfl hl.1 rfl (Nat.le_of_ble_eq_true rfl) dX6_lowestHeight_38 (fun H locs hH => ?_)
      refine lv_istore (lv' := [(7, .int (iI (10 * f + i))), (0, .ref (g.1 0)), (1, .int (iI f)), (2, .int (iI lat)), (3, .int (iI t)), (4, .int (iI (S 5 f))), (5, .int (iI a)), (6, .int (iI i))]) zx zb dX6_lowestHeight_41 hl (by decide) rfl (fun ls hl => ?_)
      refine lv_iload zx zb dX6_lowestHeight_43 (lv_at hl 6 rfl) ?_
      refine lv_aload_n zx zb dX6_lowestHeight_45 rfl (lv_at hl 1 rfl) ?_
      refine gf_X6_12 C0 hH dX6_lowestHeight_46 ?_
      refine lv_aload_n zx zb dX6_lowestHeight_49 rfl (lv_at hl 1 rfl) ?_
      refine gf_X6_19 C0 hH dX6_lowestHeight_50 ?_
      refine gf_X6_131 C0 hH dX6_lowestHeight_53 ?_
      refine lv_iload zx zb dX6_lowestHeight_56 (lv_at hl 0 rfl) ?_
      refine al_6 C0 hH (by omega) (by omega) dX6_lowestHeight_58 ?_
      refine lv_iload_n zx zb dX6_lowestHeight_59 rfl (lv_at hl 3 rfl) ?_
      refine lv_iload_n zx zb dX6_lowestHeight_60 rfl (lv_at hl 4 rfl) ?_
      refine cvI (rest := [.int (iI a)]) (As := [.int (iI (S 6 (10 * f + i))), .int (iI lat), .int (iI t)]) (b := g.1 1) C0 hH (c_X2_heightAt l g S (S 6 (10 * f + i)) lat t (by omega) (by omega) (by omega) (hC)) kw_X6_188 ky_X2_heightAt ⟨Nat.le_of_ble_eq_true rfl, Nat.le_of_ble_eq_true rfl⟩ ⟨Nat.zero_le _, Nat.zero_le _⟩ 1 rfl rfl rfl hl.1 rfl (Nat.le_of_ble_eq_true rfl) dX6_lowestHeight_61 (fun H locs hH => ?_)
      refine csI (rest := []) (As := [.int (iI a), .int (iI (hg lat (S 3 (S 6 (10 * f + i))) (t - S 2 (S 6 (10 * f + i)))))]) C0 hH (c_J9_min_7cf53 l g S a (hg lat (S 3 (S 6 (10 * f + i))) (t - S 2 (S 6 (10 * f + i)))) (by omega) (by omega)) kw_X6_254 ky_J9_min_7cf53 ⟨Nat.le_of_ble_eq_true rfl, Nat.le_of_ble_eq_true rfl⟩ ⟨Nat.zero_le _, Nat.zero_le _⟩ rfl hl.1 rfl (Nat.le_of_ble_eq_true rfl) dX6_lowestHeight_64 (fun H locs hH => ?_)
      refine lv_istore (lv' := [(5, .int (iI (min a (hg lat (S 3 (S 6 (10 * f + i))) (t - S 2 (S 6 (10 * f + i))))))), (7, .int (iI (10 * f + i))), (0, .ref (g.1 0)), (1, .int (iI f)), (2, .int (iI lat)), (3, .int (iI t)), (4, .int (iI (S 5 f))), (6, .int (iI i))]) zx zb dX6_lowestHeight_67 hl (by decide) rfl (fun ls hl => ?_)
      refine lv_iload zx zb dX6_lowestHeight_69 (lv_at hl 0 rfl) ?_
      refine lv_aload_n zx zb dX6_lowestHeight_71 rfl (lv_at hl 2 rfl) ?_
      refine gf_X6_12 C0 hH dX6_lowestHeight_72 ?_
      refine lv_aload_n zx zb dX6_lowestHeight_75 rfl (lv_at hl 2 rfl) ?_
      refine gf_X6_19 C0 hH dX6_lowestHeight_76 ?_
      refine gf_X6_134 C0 hH dX6_lowestHeight_79 ?_
      refine lv_iload zx zb dX6_lowestHeight_82 (lv_at hl 1 rfl) ?_
      refine al_7 C0 hH (by omega) (by omega) dX6_lowestHeight_84 ?_
      refine lv_iload_n zx zb dX6_lowestHeight_85 rfl (lv_at hl 4 rfl) ?_
      refine lv_iload_n zx zb dX6_lowestHeight_86 rfl (lv_at hl 5 rfl) ?_
      refine cvI (rest := [.int (iI (min a (hg lat (S 3 (S 6 (10 * f + i))) (t - S 2 (S 6 (10 * f + i))))))]) (As := [.int (iI (S 7 (10 * f + i))), .int (iI lat), .int (iI t)]) (b := g.1 1) C0 hH (c_X2_heightAt l g S (S 7 (10 * f + i)) lat t (by omega) (by omega) (by omega) (hC)) kw_X6_188 ky_X2_heightAt ⟨Nat.le_of_ble_eq_true rfl, Nat.le_of_ble_eq_true rfl⟩ ⟨Nat.zero_le _, Nat.zero_le _⟩ 1 rfl rfl rfl hl.1 rfl (Nat.le_of_ble_eq_true rfl) dX6_lowestHeight_87 (fun H locs hH => ?_)
      refine csI (rest := []) (As := [.int (iI (min a (hg lat (S 3 (S 6 (10 * f + i))) (t - S 2 (S 6 (10 * f + i)))))), .int (iI (hg lat (S 3 (S 7 (10 * f + i))) (t - S 2 (S 7 (10 * f + i)))))]) C0 hH (c_J9_min_7cf53 l g S (min a (hg lat (S 3 (S 6 (10 * f + i))) (t - S 2 (S 6 (10 * f + i))))) (hg lat (S 3 (S 7 (10 * f + i))) (t - S 2 (S 7 (10 * f + i)))) (by omega) (by omega)) kw_X6_254 ky_J9_min_7cf53 ⟨Nat.le_of_ble_eq_true rfl, Nat.le_of_ble_eq_true rfl⟩ ⟨Nat.zero_le _, Nat.zero_le _⟩ rfl hl.1 rfl (Nat.le_of_ble_eq_true rfl) dX6_lowestHeight_90 (fun H locs hH => ?_)
      refine lv_istore (lv' := [(5, .int (iI (min (min a (hg lat (S 3 (S 6 (10 * f + i))) (t - S 2 (S 6 (10 * f + i))))) (hg lat (S 3 (S 7 (10 * f + i))) (t - S 2 (S 7 (10 * f + i))))))), (7, .int (iI (10 * f + i))), (0, .ref (g.1 0)), (1, .int (iI f)), (2, .int (iI lat)), (3, .int (iI t)), (4, .int (iI (S 5 f))), (6, .int (iI i))]) zx zb dX6_lowestHeight_93 hl (by decide) rfl (fun ls hl => ?_)
      refine bi_inc (k0 := 7) (n := 1) (lv' := [(6, .int (iI (i + 1))), (5, .int (iI (min (min a (hg lat (S 3 (S 6 (10 * f + i))) (t - S 2 (S 6 (10 * f + i))))) (hg lat (S 3 (S 7 (10 * f + i))) (t - S 2 (S 7 (10 * f + i))))))), (7, .int (iI (10 * f + i))), (0, .ref (g.1 0)), (1, .int (iI f)), (2, .int (iI lat)), (3, .int (iI t)), (4, .int (iI (S 5 f)))]) zx zb dX6_lowestHeight_95 hl rfl (by decide) rfl (fun ls hl => ?_)
      refine lv_goto (tgt := 28) zx zb dX6_lowestHeight_98 (by decide) ?_
      exact ih28 ((S 5 f - (i + 1)).toNat) (by omega) (i + 1) (min (min a (hg lat (S 3 (S 6 (10 * f + i))) (t - S 2 (S 6 (10 * f + i))))) (hg lat (S 3 (S 7 (10 * f + i))) (t - S 2 (S 7 (10 * f + i))))) rfl (by omega) (by omega) (by rw [hR, lpF_s2 zq32, Int.add_assoc]; rfl) _ _ hH ls (lv_sub hl [3, 4, 5, 6, 7, 1, 0] rfl)
  obtain ⟨H, hHe⟩ : ∃ H : Heap, H = s.heap := ⟨_, rfl⟩
  rw [show (Hp g S s s.heap []) = Hp g S s H [] by rw [hHe]] at hH
  rw [← hHe]
  have hn := hN f hf.1 hf.2
  refine lv_aload_n zx zb dX6_lowestHeight_0 rfl (lv_at hl 0 rfl) ?_
  refine gf_X6_19 C0 hH dX6_lowestHeight_1 ?_
  refine gf_X6_102 C0 hH dX6_lowestHeight_4 ?_
  refine lv_iload_n zx zb dX6_lowestHeight_7 rfl (lv_at hl 1 rfl) ?_
  refine al_5 C0 hH (by omega) (by omega) dX6_lowestHeight_8 ?_
  refine lv_istore (lv' := [(4, .int (iI (S 5 f))), (0, .ref (g.1 0)), (1, .int (iI f)), (2, .int (iI lat)), (3, .int (iI t))]) zx zb dX6_lowestHeight_9 hl (by decide) rfl (fun ls hl => ?_)
  refine lv_iload zx zb dX6_lowestHeight_11 (lv_at hl 0 rfl) ?_
  refine bz_ne (tgt := 20) zx zb dX6_lowestHeight_13 (by decide) ⟨by omega, by omega⟩ (fun zq13 => ?_) (fun zq13 => ?_)
  · refine bi_sip (n := 1000) zx zb dX6_lowestHeight_20 (by decide) ?_
    refine lv_istore (lv' := [(5, .int (iI 1000)), (4, .int (iI (S 5 f))), (0, .ref (g.1 0)), (1, .int (iI f)), (2, .int (iI lat)), (3, .int (iI t))]) zx zb dX6_lowestHeight_23 hl (by decide) rfl (fun ls hl => ?_)
    refine bi_const (n := 0) zx zb dX6_lowestHeight_25 ?_
    refine lv_istore (lv' := [(6, .int (iI 0)), (5, .int (iI 1000)), (4, .int (iI (S 5 f))), (0, .ref (g.1 0)), (1, .int (iI f)), (2, .int (iI lat)), (3, .int (iI t))]) zx zb dX6_lowestHeight_26 hl (by decide) rfl (fun ls hl => ?_)
    exact L28 _ 0 1000 rfl (by omega) (by omega) (by unfold lwI; first | (rw [if_pos zq13, Int.sub_zero, Int.add_zero]; done) | (rw [if_neg zq13, Int.sub_zero, Int.add_zero]; done)) _ _ hH ls (lv_sub hl [3, 4, 5, 6, 2, 1, 0] rfl)
  · refine bi_const (n := 0) zx zb dX6_lowestHeight_16 ?_
    refine lv_goto (tgt := 23) zx zb dX6_lowestHeight_17 (by decide) ?_
    refine lv_istore (lv' := [(5, .int (iI 0)), (4, .int (iI (S 5 f))), (0, .ref (g.1 0)), (1, .int (iI f)), (2, .int (iI lat)), (3, .int (iI t))]) zx zb dX6_lowestHeight_23 hl (by decide) rfl (fun ls hl => ?_)
    refine bi_const (n := 0) zx zb dX6_lowestHeight_25 ?_
    refine lv_istore (lv' := [(6, .int (iI 0)), (5, .int (iI 0)), (4, .int (iI (S 5 f))), (0, .ref (g.1 0)), (1, .int (iI f)), (2, .int (iI lat)), (3, .int (iI t))]) zx zb dX6_lowestHeight_26 hl (by decide) rfl (fun ls hl => ?_)
    exact L28 _ 0 0 rfl (by omega) (by omega) (by unfold lwI; first | (rw [if_pos zq13, Int.sub_zero, Int.add_zero]; done) | (rw [if_neg zq13, Int.sub_zero, Int.add_zero]; done)) _ _ hH ls (lv_sub hl [3, 4, 5, 6, 2, 1, 0] rfl)
set_option maxRecDepth 100000 in
set_option maxHeartbeats 4000000 in
theorem c_X6_figureIsUp (l : Launch) (g : gT) (S : gSt) (f lat t : Int) (hf : 0 ≤ f ∧ f < 8) (hlat : -90 ≤ lat ∧ lat ≤ 90) (ht : 0 ≤ t ∧ t ≤ 1000) (hN : okN (S 5)) (hE : okE (S 5) (S 6)) (hO : okE (S 5) (S 7)) (hC : okC (S 2) (S 3)) : MetG l g yX6_figureIsUp cX6_figureIsUp 4 (some .boolean) 5 120 [.ref (g.1 0), .int (iI f), .int (iI lat), .int (iI t)] S (some (.int (iI (if upB (S 5) (S 6) (S 7) (S 2) (S 3) f lat t = true then 1 else 0)))) S := by
  refine bodyG (by decide +kernel) (Nat.le_of_ble_eq_true rfl) ?_
  intro p e s m args below meth c ls C0 hret hlk hl hH
  have zx := C0.1
  have zb := C0.2.1
  have hl : lv_has ls 4 [(0, .ref (g.1 0)), (1, .int (iI f)), (2, .int (iI lat)), (3, .int (iI t))] := hl
  obtain ⟨H, hHe⟩ : ∃ H : Heap, H = s.heap := ⟨_, rfl⟩
  rw [show (Hp g S s s.heap []) = Hp g S s H [] by rw [hHe]] at hH
  rw [← hHe]
  refine lv_aload_n zx zb dX6_figureIsUp_0 rfl (lv_at hl 0 rfl) ?_
  refine lv_iload_n zx zb dX6_figureIsUp_1 rfl (lv_at hl 1 rfl) ?_
  refine lv_iload_n zx zb dX6_figureIsUp_2 rfl (lv_at hl 2 rfl) ?_
  refine lv_iload_n zx zb dX6_figureIsUp_3 rfl (lv_at hl 3 rfl) ?_
  refine cvI (rest := []) (As := [.int (iI f), .int (iI lat), .int (iI t)]) (b := g.1 0) C0 hH (c_X6_lowestHeight l g S f lat t (by omega) (by omega) (by omega) (hN) (hE) (hO) (hC)) kw_X6_198 ky_X6_lowestHeight ⟨Nat.le_of_ble_eq_true rfl, Nat.le_of_ble_eq_true rfl⟩ ⟨Nat.zero_le _, Nat.zero_le _⟩ 0 rfl rfl rfl hl.1 rfl (Nat.le_of_ble_eq_true rfl) dX6_figureIsUp_4 (fun H locs hH => ?_)
  have hb := lwI_b (S 5) (S 6) (S 7) (S 2) (S 3) f lat t
  refine bz_le (tgt := 14) zx zb dX6_figureIsUp_7 (by decide) ⟨by omega, by omega⟩ (fun zq7 => ?_) (fun zq7 => ?_)
  · refine bi_const (n := 0) zx zb dX6_figureIsUp_14 ?_
    exact retZ C0 hret hlk hH (by unfold upB; first | (rw [if_pos (decide_eq_true zq7)]; done) | (rw [if_neg (by simp; omega)]; done)) (by omega) (rfl) dX6_figureIsUp_15
  · refine bi_const (n := 1) zx zb dX6_figureIsUp_10 ?_
    refine lv_goto (tgt := 15) zx zb dX6_figureIsUp_11 (by decide) ?_
    exact retZ C0 hret hlk hH (by unfold upB; first | (rw [if_pos (decide_eq_true zq7)]; done) | (rw [if_neg (by simp; omega)]; done)) (by omega) (rfl) dX6_figureIsUp_15
set_option maxRecDepth 100000 in
set_option maxHeartbeats 4000000 in
theorem c_X6_hoursOfStar (l : Launch) (g : gT) (S : gSt) (z lat d : Int) (hz : 0 ≤ z ∧ z < 24) (hlat : -90 ≤ lat ∧ lat ≤ 90) (hd : 0 ≤ d ∧ d < 365) (hC : okC (S 2) (S 3)) : MetG l g yX6_hoursOfStar cX6_hoursOfStar 6 (some .int) 4 93 [.ref (g.1 0), .int (iI z), .int (iI lat), .int (iI d)] S (some (.int (iI ((hsN (S 2) (S 3) z lat d : Nat) : Int)))) S := by
  refine bodyG (by decide +kernel) (Nat.le_of_ble_eq_true rfl) ?_
  intro p e s m args below meth c ls C0 hret hlk hl hH
  have zx := C0.1
  have zb := C0.2.1
  have hl : lv_has ls 6 [(0, .ref (g.1 0)), (1, .int (iI z)), (2, .int (iI lat)), (3, .int (iI d))] := hl
  have L6 : ∀ (μ : Nat) (i : Int) (k : Nat), (24 - i).toNat = μ → (0 ≤ i ∧ i ≤ 24) → (hsN (S 2) (S 3) z lat d = lpF (dyQ (fun h => decide (0 < hgA (S 2) (S 3) lat (15 * h + d) z))) (24 - i).toNat i k) → ∀ (H : Heap) (locs : List Loc), Hp g S s H locs → ∀ ls : Array Slot, lv_has ls 6 [(0, .ref (g.1 0)), (1, .int (iI z)), (2, .int (iI lat)), (3, .int (iI d)), (4, .int (iI ((k : Nat) : Int))), (5, .int (iI i))] → W p l e { frames := 4, cells := 0, slots := 0, locals := 93 } s m args below meth c H locs 0 0 (MQ below (RetG g (some (.int (iI ((hsN (S 2) (S 3) z lat d : Nat) : Int)))) S) args s 0 0 (oA g)) (F0 m 6 ls []) := by
    refine lpN (fun μ6 ih6 => ?_)
    intro i k hμ6 hi hR H locs hH ls hl
    refine lv_iload zx zb dX6_hoursOfStar_6 (lv_at hl 5 rfl) ?_
    refine bi_bip (n := 24) zx zb dX6_hoursOfStar_8 (by decide) ?_
    refine bq_ge (tgt := 46) zx zb dX6_hoursOfStar_10 (by decide) ⟨by omega, by omega⟩ ⟨by omega, by omega⟩ (fun zq10 => ?_) (fun zq10 => ?_)
    · refine lv_iload zx zb dX6_hoursOfStar_46 (lv_at hl 4 rfl) ?_
      exact retI C0 hret hlk hH (by rw [hR, lpF_e2 zq10]) (rfl) dX6_hoursOfStar_48
    · refine lv_aload_n zx zb dX6_hoursOfStar_13 rfl (lv_at hl 0 rfl) ?_
      refine gf_X6_12 C0 hH dX6_hoursOfStar_14 ?_
      refine lv_iload_n zx zb dX6_hoursOfStar_17 rfl (lv_at hl 1 rfl) ?_
      refine lv_iload_n zx zb dX6_hoursOfStar_18 rfl (lv_at hl 2 rfl) ?_
      refine lv_iload_n zx zb dX6_hoursOfStar_19 rfl (lv_at hl 3 rfl) ?_
      refine lv_iload zx zb dX6_hoursOfStar_20 (lv_at hl 5 rfl) ?_
      refine csI (rest := [.int (iI lat), .int (iI z), .ref (g.1 1)]) (As := [.int (iI d), .int (iI i)]) C0 hH (c_X6_skyTurn l g S d i) kw_X6_185 ky_X6_skyTurn ⟨Nat.le_of_ble_eq_true rfl, Nat.le_of_ble_eq_true rfl⟩ ⟨Nat.zero_le _, Nat.zero_le _⟩ rfl hl.1 rfl (Nat.le_of_ble_eq_true rfl) dX6_hoursOfStar_22 (fun H locs hH => ?_)
      refine cvI (rest := []) (As := [.int (iI z), .int (iI lat), .int (iI (15 * i + d))]) (b := g.1 1) C0 hH (c_X2_heightAt l g S z lat (15 * i + d) (by omega) (by omega) (by omega) (hC)) kw_X6_188 ky_X2_heightAt ⟨Nat.le_of_ble_eq_true rfl, Nat.le_of_ble_eq_true rfl⟩ ⟨Nat.zero_le _, Nat.zero_le _⟩ 1 rfl rfl rfl hl.1 rfl (Nat.le_of_ble_eq_true rfl) dX6_hoursOfStar_25 (fun H locs hH => ?_)
      have hb1 := hg_b lat (S 3 z) (15 * i + d - S 2 z)
      refine bz_le (tgt := 40) zx zb dX6_hoursOfStar_28 (by decide) ⟨by omega, by omega⟩ (fun zq28 => ?_) (fun zq28 => ?_)
      · refine bi_inc (k0 := 5) (n := 1) (lv' := [(5, .int (iI (i + 1))), (0, .ref (g.1 0)), (1, .int (iI z)), (2, .int (iI lat)), (3, .int (iI d)), (4, .int (iI ((k : Nat) : Int)))]) zx zb dX6_hoursOfStar_40 hl rfl (by decide) rfl (fun ls hl => ?_)
        refine lv_goto (tgt := 6) zx zb dX6_hoursOfStar_43 (by decide) ?_
        exact ih6 ((24 - (i + 1)).toNat) (by omega) (i + 1) k rfl (by omega) (by rw [hR, lpF_s2 zq10]; unfold dyQ hgA; first | (rw [if_pos (decide_eq_true zq28)]; done) | (rw [if_neg (by simp; omega)]; done)) _ _ hH ls (lv_sub hl [1, 2, 3, 4, 5, 0] rfl)
      · refine lv_iload zx zb dX6_hoursOfStar_31 (lv_at hl 4 rfl) ?_
        refine bi_const (n := 1) zx zb dX6_hoursOfStar_33 ?_
        refine lv_iload zx zb dX6_hoursOfStar_34 (lv_at hl 5 rfl) ?_
        refine bi_shl zx zb dX6_hoursOfStar_36 (by omega) (by omega) ?_
        refine bi_or (a := k) (b := 2 ^ i.toNat) zx zb dX6_hoursOfStar_37 ?_
        refine lv_istore (lv' := [(4, .int (iI ((k ||| (2 ^ i.toNat) : Nat) : Int))), (0, .ref (g.1 0)), (1, .int (iI z)), (2, .int (iI lat)), (3, .int (iI d)), (5, .int (iI i))]) zx zb dX6_hoursOfStar_38 hl (by decide) rfl (fun ls hl => ?_)
        refine bi_inc (k0 := 5) (n := 1) (lv' := [(5, .int (iI (i + 1))), (4, .int (iI ((k ||| (2 ^ i.toNat) : Nat) : Int))), (0, .ref (g.1 0)), (1, .int (iI z)), (2, .int (iI lat)), (3, .int (iI d))]) zx zb dX6_hoursOfStar_40 hl rfl (by decide) rfl (fun ls hl => ?_)
        refine lv_goto (tgt := 6) zx zb dX6_hoursOfStar_43 (by decide) ?_
        exact ih6 ((24 - (i + 1)).toNat) (by omega) (i + 1) (k ||| (2 ^ i.toNat)) rfl (by omega) (by rw [hR, lpF_s2 zq10]; unfold dyQ hgA; first | (rw [if_pos (decide_eq_true zq28)]; done) | (rw [if_neg (by simp; omega)]; done)) _ _ hH ls (lv_sub hl [2, 3, 4, 5, 1, 0] rfl)
  obtain ⟨H, hHe⟩ : ∃ H : Heap, H = s.heap := ⟨_, rfl⟩
  rw [show (Hp g S s s.heap []) = Hp g S s H [] by rw [hHe]] at hH
  rw [← hHe]
  refine bi_const (n := 0) zx zb dX6_hoursOfStar_0 ?_
  refine lv_istore (lv' := [(4, .int (iI 0)), (0, .ref (g.1 0)), (1, .int (iI z)), (2, .int (iI lat)), (3, .int (iI d))]) zx zb dX6_hoursOfStar_1 hl (by decide) rfl (fun ls hl => ?_)
  refine bi_const (n := 0) zx zb dX6_hoursOfStar_3 ?_
  refine lv_istore (lv' := [(5, .int (iI 0)), (4, .int (iI 0)), (0, .ref (g.1 0)), (1, .int (iI z)), (2, .int (iI lat)), (3, .int (iI d))]) zx zb dX6_hoursOfStar_4 hl (by decide) rfl (fun ls hl => ?_)
  exact L6 _ 0 0 rfl (by omega) (by unfold hsN dyN; rw [Int.sub_zero]) _ _ hH ls (lv_sub hl [2, 3, 4, 5, 1, 0] rfl)
set_option maxRecDepth 100000 in
set_option maxHeartbeats 4000000 in
theorem c_X6_showIsWrong (l : Launch) (g : gT) (S : gSt) (i : Int) (hi : 0 ≤ i ∧ i < 12) (hN : okN (S 5)) (hE : okE (S 5) (S 6)) (hO : okE (S 5) (S 7)) (hC : okC (S 2) (S 3)) (hG : okG (S 11)) (hP : okP (S 13) (S 14) (S 15) (S 16)) : MetG l g yX6_showIsWrong cX6_showIsWrong 3 (some .boolean) 5 120 [.ref (g.1 0), .int (iI i)] S (some (.int (iI (if swB S i = true then 1 else 0)))) S := by
  refine bodyG (by decide +kernel) (Nat.le_of_ble_eq_true rfl) ?_
  intro p e s m args below meth c ls C0 hret hlk hl hH
  have zx := C0.1
  have zb := C0.2.1
  have hl : lv_has ls 3 [(0, .ref (g.1 0)), (1, .int (iI i))] := hl
  obtain ⟨H, hHe⟩ : ∃ H : Heap, H = s.heap := ⟨_, rfl⟩
  rw [show (Hp g S s s.heap []) = Hp g S s H [] by rw [hHe]] at hH
  rw [← hHe]
  have hp := hP i hi.1 hi.2
  have hg := hG (S 13 i) hp.1.1 hp.1.2
  refine lv_aload_n zx zb dX6_showIsWrong_0 rfl (lv_at hl 0 rfl) ?_
  refine gf_X6_33 C0 hH dX6_showIsWrong_1 ?_
  refine gf_X6_259 C0 hH dX6_showIsWrong_4 ?_
  refine lv_iload_n zx zb dX6_showIsWrong_7 rfl (lv_at hl 1 rfl) ?_
  refine al_13 C0 hH (by omega) (by omega) dX6_showIsWrong_8 ?_
  refine lv_istore_n (lv' := [(2, .int (iI (S 13 i))), (0, .ref (g.1 0)), (1, .int (iI i))]) zx zb dX6_showIsWrong_9 rfl hl (by decide) rfl (fun ls hl => ?_)
  refine lv_aload_n zx zb dX6_showIsWrong_10 rfl (lv_at hl 1 rfl) ?_
  refine gf_X6_26 C0 hH dX6_showIsWrong_11 ?_
  refine gf_X6_173 C0 hH dX6_showIsWrong_14 ?_
  refine lv_iload_n zx zb dX6_showIsWrong_17 rfl (lv_at hl 0 rfl) ?_
  refine al_11 C0 hH (by omega) (by omega) dX6_showIsWrong_18 ?_
  refine lv_aload_n zx zb dX6_showIsWrong_19 rfl (lv_at hl 1 rfl) ?_
  refine gf_X6_33 C0 hH dX6_showIsWrong_20 ?_
  refine gf_X6_262 C0 hH dX6_showIsWrong_23 ?_
  refine lv_iload_n zx zb dX6_showIsWrong_26 rfl (lv_at hl 2 rfl) ?_
  refine al_14 C0 hH (by omega) (by omega) dX6_showIsWrong_27 ?_
  refine bq_ne (tgt := 57) zx zb dX6_showIsWrong_28 (by decide) ⟨by omega, by omega⟩ ⟨by omega, by omega⟩ (fun zq28 => ?_) (fun zq28 => ?_)
  · refine bi_const (n := 1) zx zb dX6_showIsWrong_57 ?_
    refine lv_goto (tgt := 62) zx zb dX6_showIsWrong_58 (by decide) ?_
    exact retZ C0 hret hlk hH (by unfold swB upB; first | (rw [decide_eq_false zq28]; rfl) | (rw [decide_eq_true zq28, decide_eq_true zq54]; rfl) | (rw [decide_eq_true zq28, decide_eq_false (Int.not_lt.mpr zq54)]; rfl)) (by omega) (rfl) dX6_showIsWrong_62
  · refine lv_aload_n zx zb dX6_showIsWrong_31 rfl (lv_at hl 1 rfl) ?_
    refine lv_iload_n zx zb dX6_showIsWrong_32 rfl (lv_at hl 0 rfl) ?_
    refine lv_aload_n zx zb dX6_showIsWrong_33 rfl (lv_at hl 1 rfl) ?_
    refine gf_X6_33 C0 hH dX6_showIsWrong_34 ?_
    refine gf_X6_265 C0 hH dX6_showIsWrong_37 ?_
    refine lv_iload_n zx zb dX6_showIsWrong_40 rfl (lv_at hl 2 rfl) ?_
    refine al_15 C0 hH (by omega) (by omega) dX6_showIsWrong_41 ?_
    refine lv_aload_n zx zb dX6_showIsWrong_42 rfl (lv_at hl 1 rfl) ?_
    refine gf_X6_33 C0 hH dX6_showIsWrong_43 ?_
    refine gf_X6_268 C0 hH dX6_showIsWrong_46 ?_
    refine lv_iload_n zx zb dX6_showIsWrong_49 rfl (lv_at hl 2 rfl) ?_
    refine al_16 C0 hH (by omega) (by omega) dX6_showIsWrong_50 ?_
    refine cvI (rest := []) (As := [.int (iI (S 13 i)), .int (iI (S 15 i)), .int (iI (S 16 i))]) (b := g.1 0) C0 hH (c_X6_lowestHeight l g S (S 13 i) (S 15 i) (S 16 i) (by omega) (by omega) (by omega) (hN) (hE) (hO) (hC)) kw_X6_198 ky_X6_lowestHeight ⟨Nat.le_of_ble_eq_true rfl, Nat.le_of_ble_eq_true rfl⟩ ⟨Nat.zero_le _, Nat.zero_le _⟩ 0 rfl rfl rfl hl.1 rfl (Nat.le_of_ble_eq_true rfl) dX6_showIsWrong_51 (fun H locs hH => ?_)
    have hb := lwI_b (S 5) (S 6) (S 7) (S 2) (S 3) (S 13 i) (S 15 i) (S 16 i)
    refine bz_gt (tgt := 61) zx zb dX6_showIsWrong_54 (by decide) ⟨by omega, by omega⟩ (fun zq54 => ?_) (fun zq54 => ?_)
    · refine bi_const (n := 0) zx zb dX6_showIsWrong_61 ?_
      exact retZ C0 hret hlk hH (by unfold swB upB; first | (rw [decide_eq_false zq28]; rfl) | (rw [decide_eq_true zq28, decide_eq_true zq54]; rfl) | (rw [decide_eq_true zq28, decide_eq_false (Int.not_lt.mpr zq54)]; rfl)) (by omega) (rfl) dX6_showIsWrong_62
    · refine bi_const (n := 1) zx zb dX6_showIsWrong_57 ?_
      refine lv_goto (tgt := 62) zx zb dX6_showIsWrong_58 (by decide) ?_
      exact retZ C0 hret hlk hH (by unfold swB upB; first | (rw [decide_eq_false zq28]; rfl) | (rw [decide_eq_true zq28, decide_eq_true zq54]; rfl) | (rw [decide_eq_true zq28, decide_eq_false (Int.not_lt.mpr zq54)]; rfl)) (by omega) (rfl) dX6_showIsWrong_62
set_option maxRecDepth 100000 in
set_option maxHeartbeats 4000000 in
theorem c_X6_countWrongShows (l : Launch) (g : gT) (S : gSt) (hN : okN (S 5)) (hE : okE (S 5) (S 6)) (hO : okE (S 5) (S 7)) (hC : okC (S 2) (S 3)) (hG : okG (S 11)) (hP : okP (S 13) (S 14) (S 15) (S 16)) (hsc : 0 ≤ S 12 0 ∧ S 12 0 ≤ 12) : MetG l g yX6_countWrongShows cX6_countWrongShows 3 (some .int) 6 142 [.ref (g.1 0)] S (some (.int (iI (wrI S)))) S := by
  refine bodyG (by decide +kernel) (Nat.le_of_ble_eq_true rfl) ?_
  intro p e s m args below meth c ls C0 hret hlk hl hH
  have zx := C0.1
  have zb := C0.2.1
  have hl : lv_has ls 3 [(0, .ref (g.1 0))] := hl
  have L4 : ∀ (μ : Nat) (i : Int) (a : Int), (S 12 0 - i).toNat = μ → (0 ≤ i ∧ i ≤ S 12 0) → (wrI S = lpF (cnQ (swB S)) (S 12 0 - i).toNat i a) → ∀ (H : Heap) (locs : List Loc), Hp g S s H locs → ∀ ls : Array Slot, lv_has ls 3 [(0, .ref (g.1 0)), (1, .int (iI a)), (2, .int (iI i))] → W p l e { frames := 6, cells := 0, slots := 0, locals := 142 } s m args below meth c H locs 0 0 (MQ below (RetG g (some (.int (iI (wrI S)))) S) args s 0 0 (oA g)) (F0 m 4 ls []) := by
    refine lpN (fun μ4 ih4 => ?_)
    intro i a hμ4 hi hR H locs hH ls hl
    refine lv_iload_n zx zb dX6_countWrongShows_4 rfl (lv_at hl 2 rfl) ?_
    refine lv_aload_n zx zb dX6_countWrongShows_5 rfl (lv_at hl 0 rfl) ?_
    refine gf_X6_33 C0 hH dX6_countWrongShows_6 ?_
    refine gf_X6_205 C0 hH dX6_countWrongShows_9 ?_
    refine bq_ge (tgt := 32) zx zb dX6_countWrongShows_12 (by decide) ⟨by omega, by omega⟩ ⟨by omega, by omega⟩ (fun zq12 => ?_) (fun zq12 => ?_)
    · refine lv_iload_n zx zb dX6_countWrongShows_32 rfl (lv_at hl 1 rfl) ?_
      exact retI C0 hret hlk hH (by rw [hR, lpF_e2 zq12]) (rfl) dX6_countWrongShows_33
    · refine lv_aload_n zx zb dX6_countWrongShows_15 rfl (lv_at hl 0 rfl) ?_
      refine lv_iload_n zx zb dX6_countWrongShows_16 rfl (lv_at hl 2 rfl) ?_
      refine cvI (rest := []) (As := [.int (iI i)]) (b := g.1 0) C0 hH (c_X6_showIsWrong l g S i (by omega) (hN) (hE) (hO) (hC) (hG) (hP)) kw_X6_215 ky_X6_showIsWrong ⟨Nat.le_of_ble_eq_true rfl, Nat.le_of_ble_eq_true rfl⟩ ⟨Nat.zero_le _, Nat.zero_le _⟩ 0 rfl rfl rfl hl.1 rfl (Nat.le_of_ble_eq_true rfl) dX6_countWrongShows_17 (fun H locs hH => ?_)
      have hb20 := brg (swB S i)
      refine bz_eq (tgt := 26) zx zb dX6_countWrongShows_20 (by decide) ⟨by omega, by omega⟩ (fun zq20 => ?_) (fun zq20 => ?_)
      · refine bi_inc (k0 := 2) (n := 1) (lv' := [(2, .int (iI (i + 1))), (0, .ref (g.1 0)), (1, .int (iI a))]) zx zb dX6_countWrongShows_26 hl rfl (by decide) rfl (fun ls hl => ?_)
        refine lv_goto (tgt := 4) zx zb dX6_countWrongShows_29 (by decide) ?_
        exact ih4 ((S 12 0 - (i + 1)).toNat) (by omega) (i + 1) a rfl (by omega) (by rw [hR, lpF_s2 zq12]; unfold cnQ; first | (rw [b0 zq20]; rfl) | (rw [b1 zq20]; rfl)) _ _ hH ls (lv_sub hl [1, 2, 0] rfl)
      · refine bi_inc (k0 := 1) (n := 1) (lv' := [(1, .int (iI (a + 1))), (0, .ref (g.1 0)), (2, .int (iI i))]) zx zb dX6_countWrongShows_23 hl rfl (by decide) rfl (fun ls hl => ?_)
        refine bi_inc (k0 := 2) (n := 1) (lv' := [(2, .int (iI (i + 1))), (1, .int (iI (a + 1))), (0, .ref (g.1 0))]) zx zb dX6_countWrongShows_26 hl rfl (by decide) rfl (fun ls hl => ?_)
        refine lv_goto (tgt := 4) zx zb dX6_countWrongShows_29 (by decide) ?_
        exact ih4 ((S 12 0 - (i + 1)).toNat) (by omega) (i + 1) (a + 1) rfl (by omega) (by rw [hR, lpF_s2 zq12]; unfold cnQ; first | (rw [b0 zq20]; rfl) | (rw [b1 zq20]; rfl)) _ _ hH ls (lv_sub hl [2, 1, 0] rfl)
  obtain ⟨H, hHe⟩ : ∃ H : Heap, H = s.heap := ⟨_, rfl⟩
  rw [show (Hp g S s s.heap []) = Hp g S s H [] by rw [hHe]] at hH
  rw [← hHe]
  refine bi_const (n := 0) zx zb dX6_countWrongShows_0 ?_
  refine lv_istore_n (lv' := [(1, .int (iI 0)), (0, .ref (g.1 0))]) zx zb dX6_countWrongShows_1 rfl hl (by decide) rfl (fun ls hl => ?_)
  refine bi_const (n := 0) zx zb dX6_countWrongShows_2 ?_
  refine lv_istore_n (lv' := [(2, .int (iI 0)), (1, .int (iI 0)), (0, .ref (g.1 0))]) zx zb dX6_countWrongShows_3 rfl hl (by decide) rfl (fun ls hl => ?_)
  exact L4 _ 0 0 rfl (by omega) (by unfold wrI; rw [Int.sub_zero]) _ _ hH ls (lv_sub hl [2, 1, 0] rfl)
end
