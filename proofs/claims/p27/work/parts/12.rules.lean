/-! ===== more rows; the throws' words; whole-number facts ===== -/
section RX
variable {p : Program} {l : Launch} {e : Env} {R : Room} {s : State} {m : MethodId} {args : Array Value} {below : List Frame} {meth : Method} {c : Code} {H : Heap} {locs : List Loc} {cells slots : Nat} {Q : State → Prop}
variable {g : gT} {own : String} {cc : ByteArray} {nL : Nat} {S S' : gSt} {pc : Nat} {ls : Array Slot} {rest : List Value}
variable {index n maxL fr lo : Nat} {y : MethodName} {bytes : ByteArray} {ret : Option FieldType} {As : List Value} {stk : List Value} {v : Option Value} {b : Nat}
theorem bi_ldc {own : String} {index : Nat} {n : Int} (hx : p.tables.exec = Jvm.exec) (hb : c.code = cc) (hown : s.vm.findClass own = some m.cls) (hconst : (Jvm.Cond.constant own index (iI n)).before args s = true) (hdg : decode cc pc = .ok (.ldc index, 2))
    (k : W p l e R s m args below meth c H locs cells slots Q (F0 m (pc + 2) ls (.int (iI n) :: rest))) : W p l e R s m args below meth c H locs cells slots Q (F0 m pc ls rest) := lv_ldc hx hb hown hconst hdg k
theorem cvI {r : Int} (C0 : Ct p s m args c g own cc nL) (hH : Hp g S s H locs) (hM : MetG l g y bytes maxL ret fr lo (.ref b :: As) S (some (.int (iI r))) S') (hw : kwV own index y bytes maxL ret) (hy : kyn y n) (hR : fr + 1 ≤ R.frames ∧ 8 + (maxL + 11) + lo ≤ R.locals) (hcs : cells ≤ R.cells ∧ slots ≤ R.slots)
    (k : Nat) {ci N : Nat} {T : u_T} {fs : List Value} (he : (Wl g S)[k]? = some (b, .inr (ci, fs))) (hc : vwCl[ci]? = some (y.cls, T, N)) (hn : As.length = n) (hsz : ls.size = nL) (hst : stk = As.reverse ++ .ref b :: rest) (hrest : (rest.map fun v => v.category).sum ≤ 8) (hdg : decode cc pc = .ok (.invokevirtual index, 3))
    (kk : ∀ (H1 : Heap) (locs1 : List Loc), Hp g S' s H1 locs1 → W p l e R s m args below meth c H1 locs1 cells slots Q (F0 m (pc + 3) ls (.int (iI r) :: rest))) : W p l e R s m args below meth c H locs cells slots Q (F0 m pc ls stk) :=
  cvG C0 hH hM hw hy hR hcs k he hc hn hsz hst hrest hdg kk
theorem cvN (C0 : Ct p s m args c g own cc nL) (hH : Hp g S s H locs) (hM : MetG l g y bytes maxL ret fr lo (.ref b :: As) S none S') (hw : kwV own index y bytes maxL ret) (hy : kyn y n) (hR : fr + 1 ≤ R.frames ∧ 8 + (maxL + 11) + lo ≤ R.locals) (hcs : cells ≤ R.cells ∧ slots ≤ R.slots)
    (k : Nat) {ci N : Nat} {T : u_T} {fs : List Value} (he : (Wl g S)[k]? = some (b, .inr (ci, fs))) (hc : vwCl[ci]? = some (y.cls, T, N)) (hn : As.length = n) (hsz : ls.size = nL) (hst : stk = As.reverse ++ .ref b :: rest) (hrest : (rest.map fun v => v.category).sum ≤ 8) (hdg : decode cc pc = .ok (.invokevirtual index, 3))
    (kk : ∀ (H1 : Heap) (locs1 : List Loc), Hp g S' s H1 locs1 → W p l e R s m args below meth c H1 locs1 cells slots Q (F0 m (pc + 3) ls rest)) : W p l e R s m args below meth c H locs cells slots Q (F0 m pc ls stk) :=
  cvG C0 hH hM hw hy hR hcs k he hc hn hsz hst hrest hdg kk
theorem csI {r : Int} (C0 : Ct p s m args c g own cc nL) (hH : Hp g S s H locs) (hM : MetG l g y bytes maxL ret fr lo As S (some (.int (iI r))) S') (hw : kwS own index y bytes maxL ret) (hy : kyn y n) (hR : fr + 1 ≤ R.frames ∧ 8 + (maxL + 11) + lo ≤ R.locals) (hcs : cells ≤ R.cells ∧ slots ≤ R.slots)
    (hn : As.length = n) (hsz : ls.size = nL) (hst : stk = As.reverse ++ rest) (hrest : (rest.map fun v => v.category).sum ≤ 8) (hdg : decode cc pc = .ok (.invokestatic index, 3))
    (kk : ∀ (H1 : Heap) (locs1 : List Loc), Hp g S' s H1 locs1 → W p l e R s m args below meth c H1 locs1 cells slots Q (F0 m (pc + 3) ls (.int (iI r) :: rest))) : W p l e R s m args below meth c H locs cells slots Q (F0 m pc ls stk) :=
  csG C0 hH hM hw hy hR hcs hn hsz hst hrest hdg kk
theorem csN (C0 : Ct p s m args c g own cc nL) (hH : Hp g S s H locs) (hM : MetG l g y bytes maxL ret fr lo As S none S') (hw : kwS own index y bytes maxL ret) (hy : kyn y n) (hR : fr + 1 ≤ R.frames ∧ 8 + (maxL + 11) + lo ≤ R.locals) (hcs : cells ≤ R.cells ∧ slots ≤ R.slots)
    (hn : As.length = n) (hsz : ls.size = nL) (hst : stk = As.reverse ++ rest) (hrest : (rest.map fun v => v.category).sum ≤ 8) (hdg : decode cc pc = .ok (.invokestatic index, 3))
    (kk : ∀ (H1 : Heap) (locs1 : List Loc), Hp g S' s H1 locs1 → W p l e R s m args below meth c H1 locs1 cells slots Q (F0 m (pc + 3) ls rest)) : W p l e R s m args below meth c H locs cells slots Q (F0 m pc ls stk) :=
  csG C0 hH hM hw hy hR hcs hn hsz hst hrest hdg kk
theorem xor_neg {a b : Int} (ra : rg a) (rb : rg b) (h : 0 ≤ b) : (0 : Int32) ≤ iI a ^^^ iI b ↔ 0 ≤ a := by
  have e : ∀ x : Int32, (0 : Int32) ≤ x ↔ x.toBitVec.msb = false := fun x => by
    rw [Int32.le_iff_toInt_le, BitVec.msb_eq_toInt]
    show (0 : Int) ≤ x.toBitVec.toInt ↔ _
    simp
  have ea : (iI a).toBitVec.msb = decide (a < 0) := by
    rw [BitVec.msb_eq_toInt]
    show decide ((iI a).toInt < 0) = _
    rw [iI_t ra]
  have eb : (iI b).toBitVec.msb = false := by
    rw [BitVec.msb_eq_toInt]
    show decide ((iI b).toInt < 0) = _
    rw [iI_t rb]
    simp
    exact h
  rw [e, Int32.toBitVec_xor, BitVec.msb_xor, ea, eb]
  simp
theorem bx_xorge (hx : p.tables.exec = Jvm.exec) (hb : c.code = cc) {a b off : Int} {tgt : Nat} (d1 : decode cc pc = .ok (.ixor, 1)) (d2 : decode cc (pc + 1) = .ok (.ifCond .ge off, 3)) (ht : ((pc + 1 : Nat) : Int) + off = (tgt : Int)) (ra : rg a) (rb : rg b) (h0 : 0 ≤ b)
    (kt : 0 ≤ a → W p l e R s m args below meth c H locs cells slots Q (F0 m tgt ls rest)) (kf : a < 0 → W p l e R s m args below meth c H locs cells slots Q (F0 m (pc + 1 + 3) ls rest)) : W p l e R s m args below meth c H locs cells slots Q (F0 m pc ls (.int (iI b) :: .int (iI a) :: rest)) :=
  lv_ixor hx hb d1 (lv_if_ge hx hb d2 ht (fun h => kt ((xor_neg ra rb h0).mp h)) (fun h => kf (Int.not_le.mp (fun q => h ((xor_neg ra rb h0).mpr q)))))
end RX
theorem bI_b (b : Bool) : (if b = true then (1 : Int) else 0) = 0 ∨ (if b = true then (1 : Int) else 0) = 1 := by cases b <;> simp
theorem td_p {a b : Int} (h : 0 ≤ a) : a.tdiv b = a / b := Int.tdiv_eq_ediv_of_nonneg h
theorem td_n {a b : Int} (h : a ≤ 0) : a.tdiv b = -((-a) / b) := by
  have h1 : ((-a) : Int).tdiv b = (-a) / b := td_p (by omega)
  rw [Int.neg_tdiv] at h1
  omega
theorem tm_p {a b : Int} (h : 0 ≤ a) : a.tmod b = a % b := Int.tmod_eq_emod_of_nonneg h
theorem tm_n {a b : Int} (h : a ≤ 0) : a.tmod b = -((-a) % b) := by
  have h1 : ((-a) : Int).tmod b = (-a) % b := tm_p (by omega)
  rw [Int.neg_tmod] at h1
  omega
/-- the sine in thousandths, the cosine, the height -/
def sh (h : Int) : Int := 4000 * (h * (180 - h)) / (40500 - h * (180 - h))
def sn (a : Int) : Int := if a % 360 < 180 then sh (a % 360 % 180) else -sh (a % 360 % 180)
def cs (a : Int) : Int := sn (a + 90)
def hg (lat up t : Int) : Int := (sn lat * sn up + cs lat * cs up * cs t / 1000) / 1000
theorem prod_b {h : Int} (h0 : 0 ≤ h) (h1 : h < 180) : 0 ≤ h * (180 - h) ∧ h * (180 - h) ≤ 8100 := by
  have : ∀ n : Nat, n < 180 → 0 ≤ (n : Int) * (180 - (n : Int)) ∧ (n : Int) * (180 - (n : Int)) ≤ 8100 := by decide +kernel
  have h2 := this h.toNat (by omega)
  rw [Int.toNat_of_nonneg h0] at h2
  exact h2
theorem sh_b {h : Int} (h0 : 0 ≤ h) (h1 : h < 180) : 0 ≤ sh h ∧ sh h ≤ 1000 := by
  have : ∀ n : Nat, n < 180 → 0 ≤ sh (n : Int) ∧ sh (n : Int) ≤ 1000 := by decide +kernel
  have h2 := this h.toNat (by omega)
  rw [Int.toNat_of_nonneg h0] at h2
  exact h2
theorem sn_b (a : Int) : -1000 ≤ sn a ∧ sn a ≤ 1000 := by
  have := sh_b (h := a % 360 % 180) (by omega) (by omega)
  unfold sn
  split <;> omega
theorem cs_b (a : Int) : -1000 ≤ cs a ∧ cs a ≤ 1000 := sn_b _
theorem mul_b {a b A B : Int} (ha : -A ≤ a ∧ a ≤ A) (hb : -B ≤ b ∧ b ≤ B) (hA : 0 ≤ A) (hB : 0 ≤ B) : -(A * B) ≤ a * b ∧ a * b ≤ A * B := by
  have h1 : (a * b).natAbs ≤ (A * B).natAbs := by
    rw [Int.natAbs_mul, Int.natAbs_mul]
    exact Nat.mul_le_mul (by omega) (by omega)
  have h2 : 0 ≤ A * B := Int.mul_nonneg hA hB
  omega
theorem atg_ISE : ∀ w ∈ (vx_atS "SkyLoom" 56 "java/lang/IllegalStateException" ["java/lang/RuntimeException", "java/lang/Exception"]).filter goodWord, w ∈ lw_tbl := by decide +kernel
theorem atn_ISE : ∀ w ∈ (vx_atS "SkyLoom" 56 "java/lang/IllegalStateException" ["java/lang/RuntimeException", "java/lang/Exception"]).filter (fun w => !goodWord w), w ∈ lw_tbl ∧ isNest w = true := by decide +kernel
theorem atS_ISE {g : gT} {s : State} {args : Array Value} (h : GG g s) : ∀ w ∈ vx_atS "SkyLoom" 56 "java/lang/IllegalStateException" ["java/lang/RuntimeException", "java/lang/Exception"], w.before args s = true := vx_hat (B := NL) (fun w hw => h.w (List.mem_filter.mpr ⟨atg_ISE w hw, (List.mem_filter.mp hw).2⟩)) (fun w hw => List.mem_filter.mpr (atn_ISE w hw)) (fun w hw => h.n hw)
theorem gdS_ISE : ∀ w ∈ Cond.classLink "SkyLoom" 52 "java/lang/IllegalStateException" :: Cond.initialized "java/lang/IllegalStateException" :: vx_atS "SkyLoom" 56 "java/lang/IllegalStateException" ["java/lang/RuntimeException", "java/lang/Exception"], vx_ot w = true := by decide +kernel
theorem atg_IAE : ∀ w ∈ (vx_atS "SkyLoom" 101 "java/lang/IllegalArgumentException" ["java/lang/RuntimeException", "java/lang/Exception"]).filter goodWord, w ∈ lw_tbl := by decide +kernel
theorem atn_IAE : ∀ w ∈ (vx_atS "SkyLoom" 101 "java/lang/IllegalArgumentException" ["java/lang/RuntimeException", "java/lang/Exception"]).filter (fun w => !goodWord w), w ∈ lw_tbl ∧ isNest w = true := by decide +kernel
theorem atS_IAE {g : gT} {s : State} {args : Array Value} (h : GG g s) : ∀ w ∈ vx_atS "SkyLoom" 101 "java/lang/IllegalArgumentException" ["java/lang/RuntimeException", "java/lang/Exception"], w.before args s = true := vx_hat (B := NL) (fun w hw => h.w (List.mem_filter.mpr ⟨atg_IAE w hw, (List.mem_filter.mp hw).2⟩)) (fun w hw => List.mem_filter.mpr (atn_IAE w hw)) (fun w hw => h.n hw)
theorem gdS_IAE : ∀ w ∈ Cond.classLink "SkyLoom" 97 "java/lang/IllegalArgumentException" :: Cond.initialized "java/lang/IllegalArgumentException" :: vx_atS "SkyLoom" 101 "java/lang/IllegalArgumentException" ["java/lang/RuntimeException", "java/lang/Exception"], vx_ot w = true := by decide +kernel
theorem atg_IOE : ∀ w ∈ (vx_atS "SkyLoom" 127 "java/lang/IndexOutOfBoundsException" ["java/lang/RuntimeException", "java/lang/Exception"]).filter goodWord, w ∈ lw_tbl := by decide +kernel
theorem atn_IOE : ∀ w ∈ (vx_atS "SkyLoom" 127 "java/lang/IndexOutOfBoundsException" ["java/lang/RuntimeException", "java/lang/Exception"]).filter (fun w => !goodWord w), w ∈ lw_tbl ∧ isNest w = true := by decide +kernel
theorem atS_IOE {g : gT} {s : State} {args : Array Value} (h : GG g s) : ∀ w ∈ vx_atS "SkyLoom" 127 "java/lang/IndexOutOfBoundsException" ["java/lang/RuntimeException", "java/lang/Exception"], w.before args s = true := vx_hat (B := NL) (fun w hw => h.w (List.mem_filter.mpr ⟨atg_IOE w hw, (List.mem_filter.mp hw).2⟩)) (fun w hw => List.mem_filter.mpr (atn_IOE w hw)) (fun w hw => h.n hw)
theorem gdS_IOE : ∀ w ∈ Cond.classLink "SkyLoom" 123 "java/lang/IndexOutOfBoundsException" :: Cond.initialized "java/lang/IndexOutOfBoundsException" :: vx_atS "SkyLoom" 127 "java/lang/IndexOutOfBoundsException" ["java/lang/RuntimeException", "java/lang/Exception"], vx_ot w = true := by decide +kernel
