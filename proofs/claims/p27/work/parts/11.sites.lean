theorem glAll : ∀ (ws : List Cond) (is : List Nat), ws.map some = is.map (fun i => lw_tbl[i]?) → ws.all goodWord = true → ∀ w ∈ ws, w ∈ GL := by
  intro ws is h hg w hw
  have h1 : some w ∈ ws.map some := List.mem_map.mpr ⟨w, hw, rfl⟩
  rw [h] at h1
  obtain ⟨i, -, hi⟩ := List.mem_map.mp h1
  exact gm i hi (List.all_eq_true.mp hg w hw)
theorem inG1 : ∀ w ∈ u_ws RX1 TX1 3, w ∈ GL := glAll _ [98, 100, 102] (by decide +kernel) (by decide +kernel)
theorem inG2 : ∀ w ∈ u_ws RX2 TX2 3, w ∈ GL := glAll _ [53, 55, 57] (by decide +kernel) (by decide +kernel)
theorem inG3 : ∀ w ∈ u_ws RX3 TX3 7, w ∈ GL := glAll _ [152, 154, 156, 158, 160, 162, 164] (by decide +kernel) (by decide +kernel)
theorem inG4 : ∀ w ∈ u_ws RX4 TX4 5, w ∈ GL := glAll _ [121, 123, 125, 127, 129] (by decide +kernel) (by decide +kernel)
theorem inG5 : ∀ w ∈ u_ws RX5 TX5 4, w ∈ GL := glAll _ [75, 77, 79, 81] (by decide +kernel) (by decide +kernel)
theorem inG6 : ∀ w ∈ u_ws RX6 TX6 5, w ∈ GL := glAll _ [172, 174, 176, 178, 180] (by decide +kernel) (by decide +kernel)
section ST
variable {p : Program} {l : Launch} {e : Env} {R : Room} {s : State} {m : MethodId} {args : Array Value} {below : List Frame} {meth : Method} {c : Code} {H : Heap} {locs : List Loc} {cells slots : Nat} {Q : State → Prop} {g : gT} {cc : ByteArray} {nL : Nat} {S : gSt} {pc : Nat} {ls : Array Slot} {rest : List Value}
theorem gf_X6_12 (C0 : Ct p s m args c g RX6 cc nL) (hH : Hp g S s H locs) (hdg : decode cc pc = .ok (.getfield 12, 3)) (kk : W p l e R s m args below meth c H locs cells slots Q (F0 m (pc + 3) ls (.ref (g.1 1) :: rest))) : W p l e R s m args below meth c H locs cells slots Q (F0 m pc ls (.ref (g.1 0) :: rest)) :=
  gfG (ref := RX6) (C := RX6) (T := TX6) (N := 5) (ci := 5) C0 hH 0 rfl rfl inG6 0 (by decide) (gm 167 (by decide +kernel) rfl) rfl rfl hdg kk
theorem gf_X6_19 (C0 : Ct p s m args c g RX6 cc nL) (hH : Hp g S s H locs) (hdg : decode cc pc = .ok (.getfield 19, 3)) (kk : W p l e R s m args below meth c H locs cells slots Q (F0 m (pc + 3) ls (.ref (g.1 4) :: rest))) : W p l e R s m args below meth c H locs cells slots Q (F0 m pc ls (.ref (g.1 0) :: rest)) :=
  gfG (ref := RX6) (C := RX6) (T := TX6) (N := 5) (ci := 5) C0 hH 0 rfl rfl inG6 1 (by decide) (gm 168 (by decide +kernel) rfl) rfl rfl hdg kk
theorem gf_X6_26 (C0 : Ct p s m args c g RX6 cc nL) (hH : Hp g S s H locs) (hdg : decode cc pc = .ok (.getfield 26, 3)) (kk : W p l e R s m args below meth c H locs cells slots Q (F0 m (pc + 3) ls (.ref (g.1 8) :: rest))) : W p l e R s m args below meth c H locs cells slots Q (F0 m pc ls (.ref (g.1 0) :: rest)) :=
  gfG (ref := RX6) (C := RX6) (T := TX6) (N := 5) (ci := 5) C0 hH 0 rfl rfl inG6 2 (by decide) (gm 169 (by decide +kernel) rfl) rfl rfl hdg kk
theorem gf_X6_33 (C0 : Ct p s m args c g RX6 cc nL) (hH : Hp g S s H locs) (hdg : decode cc pc = .ok (.getfield 33, 3)) (kk : W p l e R s m args below meth c H locs cells slots Q (F0 m (pc + 3) ls (.ref (g.1 12) :: rest))) : W p l e R s m args below meth c H locs cells slots Q (F0 m pc ls (.ref (g.1 0) :: rest)) :=
  gfG (ref := RX6) (C := RX6) (T := TX6) (N := 5) (ci := 5) C0 hH 0 rfl rfl inG6 3 (by decide) (gm 170 (by decide +kernel) rfl) rfl rfl hdg kk
theorem gf_X6_40 (C0 : Ct p s m args c g RX6 cc nL) (hH : Hp g S s H locs) (hdg : decode cc pc = .ok (.getfield 40, 3)) (kk : W p l e R s m args below meth c H locs cells slots Q (F0 m (pc + 3) ls (.ref (g.1 17) :: rest))) : W p l e R s m args below meth c H locs cells slots Q (F0 m pc ls (.ref (g.1 0) :: rest)) :=
  gfG (ref := RX6) (C := RX6) (T := TX6) (N := 5) (ci := 5) C0 hH 0 rfl rfl inG6 4 (by decide) (gm 171 (by decide +kernel) rfl) rfl rfl hdg kk
theorem gf_X6_48 (C0 : Ct p s m args c g RX6 cc nL) (hH : Hp g S s H locs) (hdg : decode cc pc = .ok (.getfield 48, 3)) (kk : W p l e R s m args below meth c H locs cells slots Q (F0 m (pc + 3) ls (.int (iI (S 1 0)) :: rest))) : W p l e R s m args below meth c H locs cells slots Q (F0 m pc ls (.ref (g.1 1) :: rest)) :=
  gnG (ref := RX2) (C := RX2) (host := "SkyLoom") (T := TX2) (N := 3) (ci := 1) C0 hH 1 rfl rfl inG2 0 (by decide) (nmm 48 (by decide +kernel) rfl) rfl rfl hdg kk
theorem gf_X6_67 (C0 : Ct p s m args c g RX6 cc nL) (hH : Hp g S s H locs) (hdg : decode cc pc = .ok (.getfield 67, 3)) (kk : W p l e R s m args below meth c H locs cells slots Q (F0 m (pc + 3) ls (.ref (g.1 2) :: rest))) : W p l e R s m args below meth c H locs cells slots Q (F0 m pc ls (.ref (g.1 1) :: rest)) :=
  gnG (ref := RX2) (C := RX2) (host := "SkyLoom") (T := TX2) (N := 3) (ci := 1) C0 hH 1 rfl rfl inG2 1 (by decide) (nmm 50 (by decide +kernel) rfl) rfl rfl hdg kk
theorem gf_X6_71 (C0 : Ct p s m args c g RX6 cc nL) (hH : Hp g S s H locs) (hdg : decode cc pc = .ok (.getfield 71, 3)) (kk : W p l e R s m args below meth c H locs cells slots Q (F0 m (pc + 3) ls (.ref (g.1 3) :: rest))) : W p l e R s m args below meth c H locs cells slots Q (F0 m pc ls (.ref (g.1 1) :: rest)) :=
  gnG (ref := RX2) (C := RX2) (host := "SkyLoom") (T := TX2) (N := 3) (ci := 1) C0 hH 1 rfl rfl inG2 2 (by decide) (nmm 52 (by decide +kernel) rfl) rfl rfl hdg kk
theorem gf_X6_86 (C0 : Ct p s m args c g RX6 cc nL) (hH : Hp g S s H locs) (hdg : decode cc pc = .ok (.getfield 86, 3)) (kk : W p l e R s m args below meth c H locs cells slots Q (F0 m (pc + 3) ls (.int (iI (S 4 0)) :: rest))) : W p l e R s m args below meth c H locs cells slots Q (F0 m pc ls (.ref (g.1 4) :: rest)) :=
  gnG (ref := RX5) (C := RX5) (host := "SkyLoom") (T := TX5) (N := 4) (ci := 4) C0 hH 4 rfl rfl inG5 0 (by decide) (nmm 68 (by decide +kernel) rfl) rfl rfl hdg kk
theorem gf_X6_102 (C0 : Ct p s m args c g RX6 cc nL) (hH : Hp g S s H locs) (hdg : decode cc pc = .ok (.getfield 102, 3)) (kk : W p l e R s m args below meth c H locs cells slots Q (F0 m (pc + 3) ls (.ref (g.1 5) :: rest))) : W p l e R s m args below meth c H locs cells slots Q (F0 m pc ls (.ref (g.1 4) :: rest)) :=
  gnG (ref := RX5) (C := RX5) (host := "SkyLoom") (T := TX5) (N := 4) (ci := 4) C0 hH 4 rfl rfl inG5 1 (by decide) (nmm 70 (by decide +kernel) rfl) rfl rfl hdg kk
theorem gf_X6_131 (C0 : Ct p s m args c g RX6 cc nL) (hH : Hp g S s H locs) (hdg : decode cc pc = .ok (.getfield 131, 3)) (kk : W p l e R s m args below meth c H locs cells slots Q (F0 m (pc + 3) ls (.ref (g.1 6) :: rest))) : W p l e R s m args below meth c H locs cells slots Q (F0 m pc ls (.ref (g.1 4) :: rest)) :=
  gnG (ref := RX5) (C := RX5) (host := "SkyLoom") (T := TX5) (N := 4) (ci := 4) C0 hH 4 rfl rfl inG5 2 (by decide) (nmm 72 (by decide +kernel) rfl) rfl rfl hdg kk
theorem gf_X6_134 (C0 : Ct p s m args c g RX6 cc nL) (hH : Hp g S s H locs) (hdg : decode cc pc = .ok (.getfield 134, 3)) (kk : W p l e R s m args below meth c H locs cells slots Q (F0 m (pc + 3) ls (.ref (g.1 7) :: rest))) : W p l e R s m args below meth c H locs cells slots Q (F0 m pc ls (.ref (g.1 4) :: rest)) :=
  gnG (ref := RX5) (C := RX5) (host := "SkyLoom") (T := TX5) (N := 4) (ci := 4) C0 hH 4 rfl rfl inG5 3 (by decide) (nmm 74 (by decide +kernel) rfl) rfl rfl hdg kk
theorem gf_X6_140 (C0 : Ct p s m args c g RX6 cc nL) (hH : Hp g S s H locs) (hdg : decode cc pc = .ok (.getfield 140, 3)) (kk : W p l e R s m args below meth c H locs cells slots Q (F0 m (pc + 3) ls (.int (iI (S 17 1)) :: rest))) : W p l e R s m args below meth c H locs cells slots Q (F0 m pc ls (.ref (g.1 17) :: rest)) :=
  gnG (ref := RX3) (C := RX3) (host := "SkyLoom") (T := TX3) (N := 7) (ci := 2) C0 hH 17 rfl rfl inG3 1 (by decide) (nmm 141 (by decide +kernel) rfl) rfl rfl hdg kk
theorem gf_X6_148 (C0 : Ct p s m args c g RX6 cc nL) (hH : Hp g S s H locs) (hdg : decode cc pc = .ok (.getfield 148, 3)) (kk : W p l e R s m args below meth c H locs cells slots Q (F0 m (pc + 3) ls (.int (iI (S 17 0)) :: rest))) : W p l e R s m args below meth c H locs cells slots Q (F0 m pc ls (.ref (g.1 17) :: rest)) :=
  gnG (ref := RX3) (C := RX3) (host := "SkyLoom") (T := TX3) (N := 7) (ci := 2) C0 hH 17 rfl rfl inG3 0 (by decide) (nmm 139 (by decide +kernel) rfl) rfl rfl hdg kk
theorem gf_X6_170 (C0 : Ct p s m args c g RX6 cc nL) (hH : Hp g S s H locs) (hdg : decode cc pc = .ok (.getfield 170, 3)) (kk : W p l e R s m args below meth c H locs cells slots Q (F0 m (pc + 3) ls (.ref (g.1 10) :: rest))) : W p l e R s m args below meth c H locs cells slots Q (F0 m pc ls (.ref (g.1 8) :: rest)) :=
  gnG (ref := RX1) (C := RX1) (host := "SkyLoom") (T := TX1) (N := 3) (ci := 0) C0 hH 8 rfl rfl inG1 1 (by decide) (nmm 95 (by decide +kernel) rfl) rfl rfl hdg kk
theorem gf_X6_173 (C0 : Ct p s m args c g RX6 cc nL) (hH : Hp g S s H locs) (hdg : decode cc pc = .ok (.getfield 173, 3)) (kk : W p l e R s m args below meth c H locs cells slots Q (F0 m (pc + 3) ls (.ref (g.1 11) :: rest))) : W p l e R s m args below meth c H locs cells slots Q (F0 m pc ls (.ref (g.1 8) :: rest)) :=
  gnG (ref := RX1) (C := RX1) (host := "SkyLoom") (T := TX1) (N := 3) (ci := 0) C0 hH 8 rfl rfl inG1 2 (by decide) (nmm 97 (by decide +kernel) rfl) rfl rfl hdg kk
theorem gf_X6_205 (C0 : Ct p s m args c g RX6 cc nL) (hH : Hp g S s H locs) (hdg : decode cc pc = .ok (.getfield 205, 3)) (kk : W p l e R s m args below meth c H locs cells slots Q (F0 m (pc + 3) ls (.int (iI (S 12 0)) :: rest))) : W p l e R s m args below meth c H locs cells slots Q (F0 m pc ls (.ref (g.1 12) :: rest)) :=
  gnG (ref := RX4) (C := RX4) (host := "SkyLoom") (T := TX4) (N := 5) (ci := 3) C0 hH 12 rfl rfl inG4 0 (by decide) (nmm 112 (by decide +kernel) rfl) rfl rfl hdg kk
theorem gf_X6_235 (C0 : Ct p s m args c g RX6 cc nL) (hH : Hp g S s H locs) (hdg : decode cc pc = .ok (.getfield 235, 3)) (kk : W p l e R s m args below meth c H locs cells slots Q (F0 m (pc + 3) ls (.ref (g.1 19) :: rest))) : W p l e R s m args below meth c H locs cells slots Q (F0 m pc ls (.ref (g.1 17) :: rest)) :=
  gnG (ref := RX3) (C := RX3) (host := "SkyLoom") (T := TX3) (N := 7) (ci := 2) C0 hH 17 rfl rfl inG3 3 (by decide) (nmm 145 (by decide +kernel) rfl) rfl rfl hdg kk
theorem gf_X6_238 (C0 : Ct p s m args c g RX6 cc nL) (hH : Hp g S s H locs) (hdg : decode cc pc = .ok (.getfield 238, 3)) (kk : W p l e R s m args below meth c H locs cells slots Q (F0 m (pc + 3) ls (.ref (g.1 20) :: rest))) : W p l e R s m args below meth c H locs cells slots Q (F0 m pc ls (.ref (g.1 17) :: rest)) :=
  gnG (ref := RX3) (C := RX3) (host := "SkyLoom") (T := TX3) (N := 7) (ci := 2) C0 hH 17 rfl rfl inG3 4 (by decide) (nmm 147 (by decide +kernel) rfl) rfl rfl hdg kk
theorem gf_X6_241 (C0 : Ct p s m args c g RX6 cc nL) (hH : Hp g S s H locs) (hdg : decode cc pc = .ok (.getfield 241, 3)) (kk : W p l e R s m args below meth c H locs cells slots Q (F0 m (pc + 3) ls (.ref (g.1 21) :: rest))) : W p l e R s m args below meth c H locs cells slots Q (F0 m pc ls (.ref (g.1 17) :: rest)) :=
  gnG (ref := RX3) (C := RX3) (host := "SkyLoom") (T := TX3) (N := 7) (ci := 2) C0 hH 17 rfl rfl inG3 5 (by decide) (nmm 149 (by decide +kernel) rfl) rfl rfl hdg kk
theorem gf_X6_244 (C0 : Ct p s m args c g RX6 cc nL) (hH : Hp g S s H locs) (hdg : decode cc pc = .ok (.getfield 244, 3)) (kk : W p l e R s m args below meth c H locs cells slots Q (F0 m (pc + 3) ls (.ref (g.1 22) :: rest))) : W p l e R s m args below meth c H locs cells slots Q (F0 m pc ls (.ref (g.1 17) :: rest)) :=
  gnG (ref := RX3) (C := RX3) (host := "SkyLoom") (T := TX3) (N := 7) (ci := 2) C0 hH 17 rfl rfl inG3 6 (by decide) (nmm 151 (by decide +kernel) rfl) rfl rfl hdg kk
theorem gf_X6_247 (C0 : Ct p s m args c g RX6 cc nL) (hH : Hp g S s H locs) (hdg : decode cc pc = .ok (.getfield 247, 3)) (kk : W p l e R s m args below meth c H locs cells slots Q (F0 m (pc + 3) ls (.ref (g.1 18) :: rest))) : W p l e R s m args below meth c H locs cells slots Q (F0 m pc ls (.ref (g.1 17) :: rest)) :=
  gnG (ref := RX3) (C := RX3) (host := "SkyLoom") (T := TX3) (N := 7) (ci := 2) C0 hH 17 rfl rfl inG3 2 (by decide) (nmm 143 (by decide +kernel) rfl) rfl rfl hdg kk
theorem gf_X6_259 (C0 : Ct p s m args c g RX6 cc nL) (hH : Hp g S s H locs) (hdg : decode cc pc = .ok (.getfield 259, 3)) (kk : W p l e R s m args below meth c H locs cells slots Q (F0 m (pc + 3) ls (.ref (g.1 13) :: rest))) : W p l e R s m args below meth c H locs cells slots Q (F0 m pc ls (.ref (g.1 12) :: rest)) :=
  gnG (ref := RX4) (C := RX4) (host := "SkyLoom") (T := TX4) (N := 5) (ci := 3) C0 hH 12 rfl rfl inG4 1 (by decide) (nmm 114 (by decide +kernel) rfl) rfl rfl hdg kk
theorem gf_X6_262 (C0 : Ct p s m args c g RX6 cc nL) (hH : Hp g S s H locs) (hdg : decode cc pc = .ok (.getfield 262, 3)) (kk : W p l e R s m args below meth c H locs cells slots Q (F0 m (pc + 3) ls (.ref (g.1 14) :: rest))) : W p l e R s m args below meth c H locs cells slots Q (F0 m pc ls (.ref (g.1 12) :: rest)) :=
  gnG (ref := RX4) (C := RX4) (host := "SkyLoom") (T := TX4) (N := 5) (ci := 3) C0 hH 12 rfl rfl inG4 2 (by decide) (nmm 116 (by decide +kernel) rfl) rfl rfl hdg kk
theorem gf_X6_265 (C0 : Ct p s m args c g RX6 cc nL) (hH : Hp g S s H locs) (hdg : decode cc pc = .ok (.getfield 265, 3)) (kk : W p l e R s m args below meth c H locs cells slots Q (F0 m (pc + 3) ls (.ref (g.1 15) :: rest))) : W p l e R s m args below meth c H locs cells slots Q (F0 m pc ls (.ref (g.1 12) :: rest)) :=
  gnG (ref := RX4) (C := RX4) (host := "SkyLoom") (T := TX4) (N := 5) (ci := 3) C0 hH 12 rfl rfl inG4 3 (by decide) (nmm 118 (by decide +kernel) rfl) rfl rfl hdg kk
theorem gf_X6_268 (C0 : Ct p s m args c g RX6 cc nL) (hH : Hp g S s H locs) (hdg : decode cc pc = .ok (.getfield 268, 3)) (kk : W p l e R s m args below meth c H locs cells slots Q (F0 m (pc + 3) ls (.ref (g.1 16) :: rest))) : W p l e R s m args below meth c H locs cells slots Q (F0 m pc ls (.ref (g.1 12) :: rest)) :=
  gnG (ref := RX4) (C := RX4) (host := "SkyLoom") (T := TX4) (N := 5) (ci := 3) C0 hH 12 rfl rfl inG4 4 (by decide) (nmm 120 (by decide +kernel) rfl) rfl rfl hdg kk
theorem gf_X1_9 (C0 : Ct p s m args c g RX1 cc nL) (hH : Hp g S s H locs) (hdg : decode cc pc = .ok (.getfield 9, 3)) (kk : W p l e R s m args below meth c H locs cells slots Q (F0 m (pc + 3) ls (.ref (g.1 9) :: rest))) : W p l e R s m args below meth c H locs cells slots Q (F0 m pc ls (.ref (g.1 8) :: rest)) :=
  gfG (ref := RX1) (C := RX1) (T := TX1) (N := 3) (ci := 0) C0 hH 8 rfl rfl inG1 0 (by decide) (gm 93 (by decide +kernel) rfl) rfl rfl hdg kk
theorem gf_X1_15 (C0 : Ct p s m args c g RX1 cc nL) (hH : Hp g S s H locs) (hdg : decode cc pc = .ok (.getfield 15, 3)) (kk : W p l e R s m args below meth c H locs cells slots Q (F0 m (pc + 3) ls (.ref (g.1 10) :: rest))) : W p l e R s m args below meth c H locs cells slots Q (F0 m pc ls (.ref (g.1 8) :: rest)) :=
  gfG (ref := RX1) (C := RX1) (T := TX1) (N := 3) (ci := 0) C0 hH 8 rfl rfl inG1 1 (by decide) (gm 94 (by decide +kernel) rfl) rfl rfl hdg kk
theorem gf_X1_18 (C0 : Ct p s m args c g RX1 cc nL) (hH : Hp g S s H locs) (hdg : decode cc pc = .ok (.getfield 18, 3)) (kk : W p l e R s m args below meth c H locs cells slots Q (F0 m (pc + 3) ls (.ref (g.1 11) :: rest))) : W p l e R s m args below meth c H locs cells slots Q (F0 m pc ls (.ref (g.1 8) :: rest)) :=
  gfG (ref := RX1) (C := RX1) (T := TX1) (N := 3) (ci := 0) C0 hH 8 rfl rfl inG1 2 (by decide) (gm 96 (by decide +kernel) rfl) rfl rfl hdg kk
theorem gf_X2_9 (C0 : Ct p s m args c g RX2 cc nL) (hH : Hp g S s H locs) (hdg : decode cc pc = .ok (.getfield 9, 3)) (kk : W p l e R s m args below meth c H locs cells slots Q (F0 m (pc + 3) ls (.ref (g.1 2) :: rest))) : W p l e R s m args below meth c H locs cells slots Q (F0 m pc ls (.ref (g.1 1) :: rest)) :=
  gfG (ref := RX2) (C := RX2) (T := TX2) (N := 3) (ci := 1) C0 hH 1 rfl rfl inG2 1 (by decide) (gm 49 (by decide +kernel) rfl) rfl rfl hdg kk
theorem gf_X2_15 (C0 : Ct p s m args c g RX2 cc nL) (hH : Hp g S s H locs) (hdg : decode cc pc = .ok (.getfield 15, 3)) (kk : W p l e R s m args below meth c H locs cells slots Q (F0 m (pc + 3) ls (.ref (g.1 3) :: rest))) : W p l e R s m args below meth c H locs cells slots Q (F0 m pc ls (.ref (g.1 1) :: rest)) :=
  gfG (ref := RX2) (C := RX2) (T := TX2) (N := 3) (ci := 1) C0 hH 1 rfl rfl inG2 2 (by decide) (gm 51 (by decide +kernel) rfl) rfl rfl hdg kk
theorem gf_X2_18 (C0 : Ct p s m args c g RX2 cc nL) (hH : Hp g S s H locs) (hdg : decode cc pc = .ok (.getfield 18, 3)) (kk : W p l e R s m args below meth c H locs cells slots Q (F0 m (pc + 3) ls (.int (iI (S 1 0)) :: rest))) : W p l e R s m args below meth c H locs cells slots Q (F0 m pc ls (.ref (g.1 1) :: rest)) :=
  gfG (ref := RX2) (C := RX2) (T := TX2) (N := 3) (ci := 1) C0 hH 1 rfl rfl inG2 0 (by decide) (gm 47 (by decide +kernel) rfl) rfl rfl hdg kk
theorem pf_X2_18 {z : Int} (C0 : Ct p s m args c g RX2 cc nL) (hH : Hp g S s H locs) (hdg : decode cc pc = .ok (.putfield 18, 3)) (kk : ∀ (H1 : Heap) (locs1 : List Loc), Hp g (st S 1 0 z) s H1 locs1 → W p l e R s m args below meth c H1 locs1 cells slots Q (F0 m (pc + 3) ls (rest))) : W p l e R s m args below meth c H locs cells slots Q (F0 m pc ls (.int (iI z) :: .ref (g.1 1) :: rest)) :=
  pfG (ref := RX2) (C := RX2) (T := TX2) (N := 3) (ci := 1) C0 hH 1 rfl rfl inG2 tyX2 tyX2_ok nmX2 0 (by decide) (gm 47 (by decide +kernel) rfl) rfl rfl (by decide +kernel) (Nat.le_of_ble_eq_true rfl) rfl hdg kk
theorem gf_X3_9 (C0 : Ct p s m args c g RX3 cc nL) (hH : Hp g S s H locs) (hdg : decode cc pc = .ok (.getfield 9, 3)) (kk : W p l e R s m args below meth c H locs cells slots Q (F0 m (pc + 3) ls (.ref (g.1 18) :: rest))) : W p l e R s m args below meth c H locs cells slots Q (F0 m pc ls (.ref (g.1 17) :: rest)) :=
  gfG (ref := RX3) (C := RX3) (T := TX3) (N := 7) (ci := 2) C0 hH 17 rfl rfl inG3 2 (by decide) (gm 142 (by decide +kernel) rfl) rfl rfl hdg kk
theorem gf_X3_15 (C0 : Ct p s m args c g RX3 cc nL) (hH : Hp g S s H locs) (hdg : decode cc pc = .ok (.getfield 15, 3)) (kk : W p l e R s m args below meth c H locs cells slots Q (F0 m (pc + 3) ls (.ref (g.1 19) :: rest))) : W p l e R s m args below meth c H locs cells slots Q (F0 m pc ls (.ref (g.1 17) :: rest)) :=
  gfG (ref := RX3) (C := RX3) (T := TX3) (N := 7) (ci := 2) C0 hH 17 rfl rfl inG3 3 (by decide) (gm 144 (by decide +kernel) rfl) rfl rfl hdg kk
theorem gf_X3_18 (C0 : Ct p s m args c g RX3 cc nL) (hH : Hp g S s H locs) (hdg : decode cc pc = .ok (.getfield 18, 3)) (kk : W p l e R s m args below meth c H locs cells slots Q (F0 m (pc + 3) ls (.ref (g.1 20) :: rest))) : W p l e R s m args below meth c H locs cells slots Q (F0 m pc ls (.ref (g.1 17) :: rest)) :=
  gfG (ref := RX3) (C := RX3) (T := TX3) (N := 7) (ci := 2) C0 hH 17 rfl rfl inG3 4 (by decide) (gm 146 (by decide +kernel) rfl) rfl rfl hdg kk
theorem gf_X3_21 (C0 : Ct p s m args c g RX3 cc nL) (hH : Hp g S s H locs) (hdg : decode cc pc = .ok (.getfield 21, 3)) (kk : W p l e R s m args below meth c H locs cells slots Q (F0 m (pc + 3) ls (.ref (g.1 21) :: rest))) : W p l e R s m args below meth c H locs cells slots Q (F0 m pc ls (.ref (g.1 17) :: rest)) :=
  gfG (ref := RX3) (C := RX3) (T := TX3) (N := 7) (ci := 2) C0 hH 17 rfl rfl inG3 5 (by decide) (gm 148 (by decide +kernel) rfl) rfl rfl hdg kk
theorem gf_X3_24 (C0 : Ct p s m args c g RX3 cc nL) (hH : Hp g S s H locs) (hdg : decode cc pc = .ok (.getfield 24, 3)) (kk : W p l e R s m args below meth c H locs cells slots Q (F0 m (pc + 3) ls (.ref (g.1 22) :: rest))) : W p l e R s m args below meth c H locs cells slots Q (F0 m pc ls (.ref (g.1 17) :: rest)) :=
  gfG (ref := RX3) (C := RX3) (T := TX3) (N := 7) (ci := 2) C0 hH 17 rfl rfl inG3 6 (by decide) (gm 150 (by decide +kernel) rfl) rfl rfl hdg kk
theorem gf_X3_27 (C0 : Ct p s m args c g RX3 cc nL) (hH : Hp g S s H locs) (hdg : decode cc pc = .ok (.getfield 27, 3)) (kk : W p l e R s m args below meth c H locs cells slots Q (F0 m (pc + 3) ls (.int (iI (S 17 0)) :: rest))) : W p l e R s m args below meth c H locs cells slots Q (F0 m pc ls (.ref (g.1 17) :: rest)) :=
  gfG (ref := RX3) (C := RX3) (T := TX3) (N := 7) (ci := 2) C0 hH 17 rfl rfl inG3 0 (by decide) (gm 138 (by decide +kernel) rfl) rfl rfl hdg kk
theorem pf_X3_27 {z : Int} (C0 : Ct p s m args c g RX3 cc nL) (hH : Hp g S s H locs) (hdg : decode cc pc = .ok (.putfield 27, 3)) (kk : ∀ (H1 : Heap) (locs1 : List Loc), Hp g (st S 17 0 z) s H1 locs1 → W p l e R s m args below meth c H1 locs1 cells slots Q (F0 m (pc + 3) ls (rest))) : W p l e R s m args below meth c H locs cells slots Q (F0 m pc ls (.int (iI z) :: .ref (g.1 17) :: rest)) :=
  pfG (ref := RX3) (C := RX3) (T := TX3) (N := 7) (ci := 2) C0 hH 17 rfl rfl inG3 tyX3 tyX3_ok nmX3 0 (by decide) (gm 138 (by decide +kernel) rfl) rfl rfl (by decide +kernel) (Nat.le_of_ble_eq_true rfl) rfl hdg kk
theorem gf_X3_31 (C0 : Ct p s m args c g RX3 cc nL) (hH : Hp g S s H locs) (hdg : decode cc pc = .ok (.getfield 31, 3)) (kk : W p l e R s m args below meth c H locs cells slots Q (F0 m (pc + 3) ls (.int (iI (S 17 1)) :: rest))) : W p l e R s m args below meth c H locs cells slots Q (F0 m pc ls (.ref (g.1 17) :: rest)) :=
  gfG (ref := RX3) (C := RX3) (T := TX3) (N := 7) (ci := 2) C0 hH 17 rfl rfl inG3 1 (by decide) (gm 140 (by decide +kernel) rfl) rfl rfl hdg kk
theorem pf_X3_31 {z : Int} (C0 : Ct p s m args c g RX3 cc nL) (hH : Hp g S s H locs) (hdg : decode cc pc = .ok (.putfield 31, 3)) (kk : ∀ (H1 : Heap) (locs1 : List Loc), Hp g (st S 17 1 z) s H1 locs1 → W p l e R s m args below meth c H1 locs1 cells slots Q (F0 m (pc + 3) ls (rest))) : W p l e R s m args below meth c H locs cells slots Q (F0 m pc ls (.int (iI z) :: .ref (g.1 17) :: rest)) :=
  pfG (ref := RX3) (C := RX3) (T := TX3) (N := 7) (ci := 2) C0 hH 17 rfl rfl inG3 tyX3 tyX3_ok nmX3 1 (by decide) (gm 140 (by decide +kernel) rfl) rfl rfl (by decide +kernel) (Nat.le_of_ble_eq_true rfl) rfl hdg kk
theorem gf_X4_9 (C0 : Ct p s m args c g RX4 cc nL) (hH : Hp g S s H locs) (hdg : decode cc pc = .ok (.getfield 9, 3)) (kk : W p l e R s m args below meth c H locs cells slots Q (F0 m (pc + 3) ls (.ref (g.1 13) :: rest))) : W p l e R s m args below meth c H locs cells slots Q (F0 m pc ls (.ref (g.1 12) :: rest)) :=
  gfG (ref := RX4) (C := RX4) (T := TX4) (N := 5) (ci := 3) C0 hH 12 rfl rfl inG4 1 (by decide) (gm 113 (by decide +kernel) rfl) rfl rfl hdg kk
theorem gf_X4_15 (C0 : Ct p s m args c g RX4 cc nL) (hH : Hp g S s H locs) (hdg : decode cc pc = .ok (.getfield 15, 3)) (kk : W p l e R s m args below meth c H locs cells slots Q (F0 m (pc + 3) ls (.ref (g.1 14) :: rest))) : W p l e R s m args below meth c H locs cells slots Q (F0 m pc ls (.ref (g.1 12) :: rest)) :=
  gfG (ref := RX4) (C := RX4) (T := TX4) (N := 5) (ci := 3) C0 hH 12 rfl rfl inG4 2 (by decide) (gm 115 (by decide +kernel) rfl) rfl rfl hdg kk
theorem gf_X4_18 (C0 : Ct p s m args c g RX4 cc nL) (hH : Hp g S s H locs) (hdg : decode cc pc = .ok (.getfield 18, 3)) (kk : W p l e R s m args below meth c H locs cells slots Q (F0 m (pc + 3) ls (.ref (g.1 15) :: rest))) : W p l e R s m args below meth c H locs cells slots Q (F0 m pc ls (.ref (g.1 12) :: rest)) :=
  gfG (ref := RX4) (C := RX4) (T := TX4) (N := 5) (ci := 3) C0 hH 12 rfl rfl inG4 3 (by decide) (gm 117 (by decide +kernel) rfl) rfl rfl hdg kk
theorem gf_X4_21 (C0 : Ct p s m args c g RX4 cc nL) (hH : Hp g S s H locs) (hdg : decode cc pc = .ok (.getfield 21, 3)) (kk : W p l e R s m args below meth c H locs cells slots Q (F0 m (pc + 3) ls (.ref (g.1 16) :: rest))) : W p l e R s m args below meth c H locs cells slots Q (F0 m pc ls (.ref (g.1 12) :: rest)) :=
  gfG (ref := RX4) (C := RX4) (T := TX4) (N := 5) (ci := 3) C0 hH 12 rfl rfl inG4 4 (by decide) (gm 119 (by decide +kernel) rfl) rfl rfl hdg kk
theorem gf_X4_24 (C0 : Ct p s m args c g RX4 cc nL) (hH : Hp g S s H locs) (hdg : decode cc pc = .ok (.getfield 24, 3)) (kk : W p l e R s m args below meth c H locs cells slots Q (F0 m (pc + 3) ls (.int (iI (S 12 0)) :: rest))) : W p l e R s m args below meth c H locs cells slots Q (F0 m pc ls (.ref (g.1 12) :: rest)) :=
  gfG (ref := RX4) (C := RX4) (T := TX4) (N := 5) (ci := 3) C0 hH 12 rfl rfl inG4 0 (by decide) (gm 111 (by decide +kernel) rfl) rfl rfl hdg kk
theorem pf_X4_24 {z : Int} (C0 : Ct p s m args c g RX4 cc nL) (hH : Hp g S s H locs) (hdg : decode cc pc = .ok (.putfield 24, 3)) (kk : ∀ (H1 : Heap) (locs1 : List Loc), Hp g (st S 12 0 z) s H1 locs1 → W p l e R s m args below meth c H1 locs1 cells slots Q (F0 m (pc + 3) ls (rest))) : W p l e R s m args below meth c H locs cells slots Q (F0 m pc ls (.int (iI z) :: .ref (g.1 12) :: rest)) :=
  pfG (ref := RX4) (C := RX4) (T := TX4) (N := 5) (ci := 3) C0 hH 12 rfl rfl inG4 tyX4 tyX4_ok nmX4 0 (by decide) (gm 111 (by decide +kernel) rfl) rfl rfl (by decide +kernel) (Nat.le_of_ble_eq_true rfl) rfl hdg kk
theorem gf_X5_9 (C0 : Ct p s m args c g RX5 cc nL) (hH : Hp g S s H locs) (hdg : decode cc pc = .ok (.getfield 9, 3)) (kk : W p l e R s m args below meth c H locs cells slots Q (F0 m (pc + 3) ls (.ref (g.1 5) :: rest))) : W p l e R s m args below meth c H locs cells slots Q (F0 m pc ls (.ref (g.1 4) :: rest)) :=
  gfG (ref := RX5) (C := RX5) (T := TX5) (N := 4) (ci := 4) C0 hH 4 rfl rfl inG5 1 (by decide) (gm 69 (by decide +kernel) rfl) rfl rfl hdg kk
theorem gf_X5_15 (C0 : Ct p s m args c g RX5 cc nL) (hH : Hp g S s H locs) (hdg : decode cc pc = .ok (.getfield 15, 3)) (kk : W p l e R s m args below meth c H locs cells slots Q (F0 m (pc + 3) ls (.ref (g.1 6) :: rest))) : W p l e R s m args below meth c H locs cells slots Q (F0 m pc ls (.ref (g.1 4) :: rest)) :=
  gfG (ref := RX5) (C := RX5) (T := TX5) (N := 4) (ci := 4) C0 hH 4 rfl rfl inG5 2 (by decide) (gm 71 (by decide +kernel) rfl) rfl rfl hdg kk
theorem gf_X5_18 (C0 : Ct p s m args c g RX5 cc nL) (hH : Hp g S s H locs) (hdg : decode cc pc = .ok (.getfield 18, 3)) (kk : W p l e R s m args below meth c H locs cells slots Q (F0 m (pc + 3) ls (.ref (g.1 7) :: rest))) : W p l e R s m args below meth c H locs cells slots Q (F0 m pc ls (.ref (g.1 4) :: rest)) :=
  gfG (ref := RX5) (C := RX5) (T := TX5) (N := 4) (ci := 4) C0 hH 4 rfl rfl inG5 3 (by decide) (gm 73 (by decide +kernel) rfl) rfl rfl hdg kk
theorem gf_X5_21 (C0 : Ct p s m args c g RX5 cc nL) (hH : Hp g S s H locs) (hdg : decode cc pc = .ok (.getfield 21, 3)) (kk : W p l e R s m args below meth c H locs cells slots Q (F0 m (pc + 3) ls (.int (iI (S 4 0)) :: rest))) : W p l e R s m args below meth c H locs cells slots Q (F0 m pc ls (.ref (g.1 4) :: rest)) :=
  gfG (ref := RX5) (C := RX5) (T := TX5) (N := 4) (ci := 4) C0 hH 4 rfl rfl inG5 0 (by decide) (gm 67 (by decide +kernel) rfl) rfl rfl hdg kk
theorem pf_X5_21 {z : Int} (C0 : Ct p s m args c g RX5 cc nL) (hH : Hp g S s H locs) (hdg : decode cc pc = .ok (.putfield 21, 3)) (kk : ∀ (H1 : Heap) (locs1 : List Loc), Hp g (st S 4 0 z) s H1 locs1 → W p l e R s m args below meth c H1 locs1 cells slots Q (F0 m (pc + 3) ls (rest))) : W p l e R s m args below meth c H locs cells slots Q (F0 m pc ls (.int (iI z) :: .ref (g.1 4) :: rest)) :=
  pfG (ref := RX5) (C := RX5) (T := TX5) (N := 4) (ci := 4) C0 hH 4 rfl rfl inG5 tyX5 tyX5_ok nmX5 0 (by decide) (gm 67 (by decide +kernel) rfl) rfl rfl (by decide +kernel) (Nat.le_of_ble_eq_true rfl) rfl hdg kk
theorem al_2 {own : String} {z : Int} (C0 : Ct p s m args c g own cc nL) (hH : Hp g S s H locs) (h0 : 0 ≤ z) (h1 : z < 24) (hdg : decode cc pc = .ok (.iaload, 1)) (kk : W p l e R s m args below meth c H locs cells slots Q (F0 m (pc + 1) ls (.int (iI (S 2 z)) :: rest))) : W p l e R s m args below meth c H locs cells slots Q (F0 m pc ls (.int (iI z) :: .ref (g.1 2) :: rest)) :=
  alG C0 hH 2 24 rfl (by decide) h0 h1 hdg kk
theorem as_2 {own : String} {z x : Int} (C0 : Ct p s m args c g own cc nL) (hH : Hp g S s H locs) (h0 : 0 ≤ z) (h1 : z < 24) (hdg : decode cc pc = .ok (.iastore, 1)) (kk : ∀ (H1 : Heap) (locs1 : List Loc), Hp g (st S 2 z x) s H1 locs1 → W p l e R s m args below meth c H1 locs1 cells slots Q (F0 m (pc + 1) ls (rest))) : W p l e R s m args below meth c H locs cells slots Q (F0 m pc ls (.int (iI x) :: .int (iI z) :: .ref (g.1 2) :: rest)) :=
  asG C0 hH 2 24 rfl (by decide) rfl h0 h1 hdg kk
theorem al_3 {own : String} {z : Int} (C0 : Ct p s m args c g own cc nL) (hH : Hp g S s H locs) (h0 : 0 ≤ z) (h1 : z < 24) (hdg : decode cc pc = .ok (.iaload, 1)) (kk : W p l e R s m args below meth c H locs cells slots Q (F0 m (pc + 1) ls (.int (iI (S 3 z)) :: rest))) : W p l e R s m args below meth c H locs cells slots Q (F0 m pc ls (.int (iI z) :: .ref (g.1 3) :: rest)) :=
  alG C0 hH 3 24 rfl (by decide) h0 h1 hdg kk
theorem as_3 {own : String} {z x : Int} (C0 : Ct p s m args c g own cc nL) (hH : Hp g S s H locs) (h0 : 0 ≤ z) (h1 : z < 24) (hdg : decode cc pc = .ok (.iastore, 1)) (kk : ∀ (H1 : Heap) (locs1 : List Loc), Hp g (st S 3 z x) s H1 locs1 → W p l e R s m args below meth c H1 locs1 cells slots Q (F0 m (pc + 1) ls (rest))) : W p l e R s m args below meth c H locs cells slots Q (F0 m pc ls (.int (iI x) :: .int (iI z) :: .ref (g.1 3) :: rest)) :=
  asG C0 hH 3 24 rfl (by decide) rfl h0 h1 hdg kk
theorem al_5 {own : String} {z : Int} (C0 : Ct p s m args c g own cc nL) (hH : Hp g S s H locs) (h0 : 0 ≤ z) (h1 : z < 8) (hdg : decode cc pc = .ok (.iaload, 1)) (kk : W p l e R s m args below meth c H locs cells slots Q (F0 m (pc + 1) ls (.int (iI (S 5 z)) :: rest))) : W p l e R s m args below meth c H locs cells slots Q (F0 m pc ls (.int (iI z) :: .ref (g.1 5) :: rest)) :=
  alG C0 hH 5 8 rfl (by decide) h0 h1 hdg kk
theorem as_5 {own : String} {z x : Int} (C0 : Ct p s m args c g own cc nL) (hH : Hp g S s H locs) (h0 : 0 ≤ z) (h1 : z < 8) (hdg : decode cc pc = .ok (.iastore, 1)) (kk : ∀ (H1 : Heap) (locs1 : List Loc), Hp g (st S 5 z x) s H1 locs1 → W p l e R s m args below meth c H1 locs1 cells slots Q (F0 m (pc + 1) ls (rest))) : W p l e R s m args below meth c H locs cells slots Q (F0 m pc ls (.int (iI x) :: .int (iI z) :: .ref (g.1 5) :: rest)) :=
  asG C0 hH 5 8 rfl (by decide) rfl h0 h1 hdg kk
theorem al_6 {own : String} {z : Int} (C0 : Ct p s m args c g own cc nL) (hH : Hp g S s H locs) (h0 : 0 ≤ z) (h1 : z < 80) (hdg : decode cc pc = .ok (.iaload, 1)) (kk : W p l e R s m args below meth c H locs cells slots Q (F0 m (pc + 1) ls (.int (iI (S 6 z)) :: rest))) : W p l e R s m args below meth c H locs cells slots Q (F0 m pc ls (.int (iI z) :: .ref (g.1 6) :: rest)) :=
  alG C0 hH 6 80 rfl (by decide) h0 h1 hdg kk
theorem as_6 {own : String} {z x : Int} (C0 : Ct p s m args c g own cc nL) (hH : Hp g S s H locs) (h0 : 0 ≤ z) (h1 : z < 80) (hdg : decode cc pc = .ok (.iastore, 1)) (kk : ∀ (H1 : Heap) (locs1 : List Loc), Hp g (st S 6 z x) s H1 locs1 → W p l e R s m args below meth c H1 locs1 cells slots Q (F0 m (pc + 1) ls (rest))) : W p l e R s m args below meth c H locs cells slots Q (F0 m pc ls (.int (iI x) :: .int (iI z) :: .ref (g.1 6) :: rest)) :=
  asG C0 hH 6 80 rfl (by decide) rfl h0 h1 hdg kk
theorem al_7 {own : String} {z : Int} (C0 : Ct p s m args c g own cc nL) (hH : Hp g S s H locs) (h0 : 0 ≤ z) (h1 : z < 80) (hdg : decode cc pc = .ok (.iaload, 1)) (kk : W p l e R s m args below meth c H locs cells slots Q (F0 m (pc + 1) ls (.int (iI (S 7 z)) :: rest))) : W p l e R s m args below meth c H locs cells slots Q (F0 m pc ls (.int (iI z) :: .ref (g.1 7) :: rest)) :=
  alG C0 hH 7 80 rfl (by decide) h0 h1 hdg kk
theorem as_7 {own : String} {z x : Int} (C0 : Ct p s m args c g own cc nL) (hH : Hp g S s H locs) (h0 : 0 ≤ z) (h1 : z < 80) (hdg : decode cc pc = .ok (.iastore, 1)) (kk : ∀ (H1 : Heap) (locs1 : List Loc), Hp g (st S 7 z x) s H1 locs1 → W p l e R s m args below meth c H1 locs1 cells slots Q (F0 m (pc + 1) ls (rest))) : W p l e R s m args below meth c H locs cells slots Q (F0 m pc ls (.int (iI x) :: .int (iI z) :: .ref (g.1 7) :: rest)) :=
  asG C0 hH 7 80 rfl (by decide) rfl h0 h1 hdg kk
theorem al_9 {own : String} {z : Int} (C0 : Ct p s m args c g own cc nL) (hH : Hp g S s H locs) (h0 : 0 ≤ z) (h1 : z < 48) (hdg : decode cc pc = .ok (.iaload, 1)) (kk : W p l e R s m args below meth c H locs cells slots Q (F0 m (pc + 1) ls (.int (iI (S 9 z)) :: rest))) : W p l e R s m args below meth c H locs cells slots Q (F0 m pc ls (.int (iI z) :: .ref (g.1 9) :: rest)) :=
  alG C0 hH 9 48 rfl (by decide) h0 h1 hdg kk
theorem as_9 {own : String} {z x : Int} (C0 : Ct p s m args c g own cc nL) (hH : Hp g S s H locs) (h0 : 0 ≤ z) (h1 : z < 48) (hdg : decode cc pc = .ok (.iastore, 1)) (kk : ∀ (H1 : Heap) (locs1 : List Loc), Hp g (st S 9 z x) s H1 locs1 → W p l e R s m args below meth c H1 locs1 cells slots Q (F0 m (pc + 1) ls (rest))) : W p l e R s m args below meth c H locs cells slots Q (F0 m pc ls (.int (iI x) :: .int (iI z) :: .ref (g.1 9) :: rest)) :=
  asG C0 hH 9 48 rfl (by decide) rfl h0 h1 hdg kk
theorem al_10 {own : String} {z : Int} (C0 : Ct p s m args c g own cc nL) (hH : Hp g S s H locs) (h0 : 0 ≤ z) (h1 : z < 80) (hdg : decode cc pc = .ok (.iaload, 1)) (kk : W p l e R s m args below meth c H locs cells slots Q (F0 m (pc + 1) ls (.int (iI (S 10 z)) :: rest))) : W p l e R s m args below meth c H locs cells slots Q (F0 m pc ls (.int (iI z) :: .ref (g.1 10) :: rest)) :=
  alG C0 hH 10 80 rfl (by decide) h0 h1 hdg kk
theorem as_10 {own : String} {z x : Int} (C0 : Ct p s m args c g own cc nL) (hH : Hp g S s H locs) (h0 : 0 ≤ z) (h1 : z < 80) (hdg : decode cc pc = .ok (.iastore, 1)) (kk : ∀ (H1 : Heap) (locs1 : List Loc), Hp g (st S 10 z x) s H1 locs1 → W p l e R s m args below meth c H1 locs1 cells slots Q (F0 m (pc + 1) ls (rest))) : W p l e R s m args below meth c H locs cells slots Q (F0 m pc ls (.int (iI x) :: .int (iI z) :: .ref (g.1 10) :: rest)) :=
  asG C0 hH 10 80 rfl (by decide) rfl h0 h1 hdg kk
theorem al_11 {own : String} {z : Int} (C0 : Ct p s m args c g own cc nL) (hH : Hp g S s H locs) (h0 : 0 ≤ z) (h1 : z < 8) (hdg : decode cc pc = .ok (.iaload, 1)) (kk : W p l e R s m args below meth c H locs cells slots Q (F0 m (pc + 1) ls (.int (iI (S 11 z)) :: rest))) : W p l e R s m args below meth c H locs cells slots Q (F0 m pc ls (.int (iI z) :: .ref (g.1 11) :: rest)) :=
  alG C0 hH 11 8 rfl (by decide) h0 h1 hdg kk
theorem as_11 {own : String} {z x : Int} (C0 : Ct p s m args c g own cc nL) (hH : Hp g S s H locs) (h0 : 0 ≤ z) (h1 : z < 8) (hdg : decode cc pc = .ok (.iastore, 1)) (kk : ∀ (H1 : Heap) (locs1 : List Loc), Hp g (st S 11 z x) s H1 locs1 → W p l e R s m args below meth c H1 locs1 cells slots Q (F0 m (pc + 1) ls (rest))) : W p l e R s m args below meth c H locs cells slots Q (F0 m pc ls (.int (iI x) :: .int (iI z) :: .ref (g.1 11) :: rest)) :=
  asG C0 hH 11 8 rfl (by decide) rfl h0 h1 hdg kk
theorem al_13 {own : String} {z : Int} (C0 : Ct p s m args c g own cc nL) (hH : Hp g S s H locs) (h0 : 0 ≤ z) (h1 : z < 12) (hdg : decode cc pc = .ok (.iaload, 1)) (kk : W p l e R s m args below meth c H locs cells slots Q (F0 m (pc + 1) ls (.int (iI (S 13 z)) :: rest))) : W p l e R s m args below meth c H locs cells slots Q (F0 m pc ls (.int (iI z) :: .ref (g.1 13) :: rest)) :=
  alG C0 hH 13 12 rfl (by decide) h0 h1 hdg kk
theorem as_13 {own : String} {z x : Int} (C0 : Ct p s m args c g own cc nL) (hH : Hp g S s H locs) (h0 : 0 ≤ z) (h1 : z < 12) (hdg : decode cc pc = .ok (.iastore, 1)) (kk : ∀ (H1 : Heap) (locs1 : List Loc), Hp g (st S 13 z x) s H1 locs1 → W p l e R s m args below meth c H1 locs1 cells slots Q (F0 m (pc + 1) ls (rest))) : W p l e R s m args below meth c H locs cells slots Q (F0 m pc ls (.int (iI x) :: .int (iI z) :: .ref (g.1 13) :: rest)) :=
  asG C0 hH 13 12 rfl (by decide) rfl h0 h1 hdg kk
theorem al_14 {own : String} {z : Int} (C0 : Ct p s m args c g own cc nL) (hH : Hp g S s H locs) (h0 : 0 ≤ z) (h1 : z < 12) (hdg : decode cc pc = .ok (.iaload, 1)) (kk : W p l e R s m args below meth c H locs cells slots Q (F0 m (pc + 1) ls (.int (iI (S 14 z)) :: rest))) : W p l e R s m args below meth c H locs cells slots Q (F0 m pc ls (.int (iI z) :: .ref (g.1 14) :: rest)) :=
  alG C0 hH 14 12 rfl (by decide) h0 h1 hdg kk
theorem as_14 {own : String} {z x : Int} (C0 : Ct p s m args c g own cc nL) (hH : Hp g S s H locs) (h0 : 0 ≤ z) (h1 : z < 12) (hdg : decode cc pc = .ok (.iastore, 1)) (kk : ∀ (H1 : Heap) (locs1 : List Loc), Hp g (st S 14 z x) s H1 locs1 → W p l e R s m args below meth c H1 locs1 cells slots Q (F0 m (pc + 1) ls (rest))) : W p l e R s m args below meth c H locs cells slots Q (F0 m pc ls (.int (iI x) :: .int (iI z) :: .ref (g.1 14) :: rest)) :=
  asG C0 hH 14 12 rfl (by decide) rfl h0 h1 hdg kk
theorem al_15 {own : String} {z : Int} (C0 : Ct p s m args c g own cc nL) (hH : Hp g S s H locs) (h0 : 0 ≤ z) (h1 : z < 12) (hdg : decode cc pc = .ok (.iaload, 1)) (kk : W p l e R s m args below meth c H locs cells slots Q (F0 m (pc + 1) ls (.int (iI (S 15 z)) :: rest))) : W p l e R s m args below meth c H locs cells slots Q (F0 m pc ls (.int (iI z) :: .ref (g.1 15) :: rest)) :=
  alG C0 hH 15 12 rfl (by decide) h0 h1 hdg kk
theorem as_15 {own : String} {z x : Int} (C0 : Ct p s m args c g own cc nL) (hH : Hp g S s H locs) (h0 : 0 ≤ z) (h1 : z < 12) (hdg : decode cc pc = .ok (.iastore, 1)) (kk : ∀ (H1 : Heap) (locs1 : List Loc), Hp g (st S 15 z x) s H1 locs1 → W p l e R s m args below meth c H1 locs1 cells slots Q (F0 m (pc + 1) ls (rest))) : W p l e R s m args below meth c H locs cells slots Q (F0 m pc ls (.int (iI x) :: .int (iI z) :: .ref (g.1 15) :: rest)) :=
  asG C0 hH 15 12 rfl (by decide) rfl h0 h1 hdg kk
theorem al_16 {own : String} {z : Int} (C0 : Ct p s m args c g own cc nL) (hH : Hp g S s H locs) (h0 : 0 ≤ z) (h1 : z < 12) (hdg : decode cc pc = .ok (.iaload, 1)) (kk : W p l e R s m args below meth c H locs cells slots Q (F0 m (pc + 1) ls (.int (iI (S 16 z)) :: rest))) : W p l e R s m args below meth c H locs cells slots Q (F0 m pc ls (.int (iI z) :: .ref (g.1 16) :: rest)) :=
  alG C0 hH 16 12 rfl (by decide) h0 h1 hdg kk
theorem as_16 {own : String} {z x : Int} (C0 : Ct p s m args c g own cc nL) (hH : Hp g S s H locs) (h0 : 0 ≤ z) (h1 : z < 12) (hdg : decode cc pc = .ok (.iastore, 1)) (kk : ∀ (H1 : Heap) (locs1 : List Loc), Hp g (st S 16 z x) s H1 locs1 → W p l e R s m args below meth c H1 locs1 cells slots Q (F0 m (pc + 1) ls (rest))) : W p l e R s m args below meth c H locs cells slots Q (F0 m pc ls (.int (iI x) :: .int (iI z) :: .ref (g.1 16) :: rest)) :=
  asG C0 hH 16 12 rfl (by decide) rfl h0 h1 hdg kk
theorem al_18 {own : String} {z : Int} (C0 : Ct p s m args c g own cc nL) (hH : Hp g S s H locs) (h0 : 0 ≤ z) (h1 : z < 30) (hdg : decode cc pc = .ok (.iaload, 1)) (kk : W p l e R s m args below meth c H locs cells slots Q (F0 m (pc + 1) ls (.int (iI (S 18 z)) :: rest))) : W p l e R s m args below meth c H locs cells slots Q (F0 m pc ls (.int (iI z) :: .ref (g.1 18) :: rest)) :=
  alG C0 hH 18 30 rfl (by decide) h0 h1 hdg kk
theorem as_18 {own : String} {z x : Int} (C0 : Ct p s m args c g own cc nL) (hH : Hp g S s H locs) (h0 : 0 ≤ z) (h1 : z < 30) (hdg : decode cc pc = .ok (.iastore, 1)) (kk : ∀ (H1 : Heap) (locs1 : List Loc), Hp g (st S 18 z x) s H1 locs1 → W p l e R s m args below meth c H1 locs1 cells slots Q (F0 m (pc + 1) ls (rest))) : W p l e R s m args below meth c H locs cells slots Q (F0 m pc ls (.int (iI x) :: .int (iI z) :: .ref (g.1 18) :: rest)) :=
  asG C0 hH 18 30 rfl (by decide) rfl h0 h1 hdg kk
theorem al_19 {own : String} {z : Int} (C0 : Ct p s m args c g own cc nL) (hH : Hp g S s H locs) (h0 : 0 ≤ z) (h1 : z < 30) (hdg : decode cc pc = .ok (.iaload, 1)) (kk : W p l e R s m args below meth c H locs cells slots Q (F0 m (pc + 1) ls (.int (iI (S 19 z)) :: rest))) : W p l e R s m args below meth c H locs cells slots Q (F0 m pc ls (.int (iI z) :: .ref (g.1 19) :: rest)) :=
  alG C0 hH 19 30 rfl (by decide) h0 h1 hdg kk
theorem as_19 {own : String} {z x : Int} (C0 : Ct p s m args c g own cc nL) (hH : Hp g S s H locs) (h0 : 0 ≤ z) (h1 : z < 30) (hdg : decode cc pc = .ok (.iastore, 1)) (kk : ∀ (H1 : Heap) (locs1 : List Loc), Hp g (st S 19 z x) s H1 locs1 → W p l e R s m args below meth c H1 locs1 cells slots Q (F0 m (pc + 1) ls (rest))) : W p l e R s m args below meth c H locs cells slots Q (F0 m pc ls (.int (iI x) :: .int (iI z) :: .ref (g.1 19) :: rest)) :=
  asG C0 hH 19 30 rfl (by decide) rfl h0 h1 hdg kk
theorem al_20 {own : String} {z : Int} (C0 : Ct p s m args c g own cc nL) (hH : Hp g S s H locs) (h0 : 0 ≤ z) (h1 : z < 30) (hdg : decode cc pc = .ok (.iaload, 1)) (kk : W p l e R s m args below meth c H locs cells slots Q (F0 m (pc + 1) ls (.int (iI (S 20 z)) :: rest))) : W p l e R s m args below meth c H locs cells slots Q (F0 m pc ls (.int (iI z) :: .ref (g.1 20) :: rest)) :=
  alG C0 hH 20 30 rfl (by decide) h0 h1 hdg kk
theorem as_20 {own : String} {z x : Int} (C0 : Ct p s m args c g own cc nL) (hH : Hp g S s H locs) (h0 : 0 ≤ z) (h1 : z < 30) (hdg : decode cc pc = .ok (.iastore, 1)) (kk : ∀ (H1 : Heap) (locs1 : List Loc), Hp g (st S 20 z x) s H1 locs1 → W p l e R s m args below meth c H1 locs1 cells slots Q (F0 m (pc + 1) ls (rest))) : W p l e R s m args below meth c H locs cells slots Q (F0 m pc ls (.int (iI x) :: .int (iI z) :: .ref (g.1 20) :: rest)) :=
  asG C0 hH 20 30 rfl (by decide) rfl h0 h1 hdg kk
theorem al_21 {own : String} {z : Int} (C0 : Ct p s m args c g own cc nL) (hH : Hp g S s H locs) (h0 : 0 ≤ z) (h1 : z < 30) (hdg : decode cc pc = .ok (.iaload, 1)) (kk : W p l e R s m args below meth c H locs cells slots Q (F0 m (pc + 1) ls (.int (iI (S 21 z)) :: rest))) : W p l e R s m args below meth c H locs cells slots Q (F0 m pc ls (.int (iI z) :: .ref (g.1 21) :: rest)) :=
  alG C0 hH 21 30 rfl (by decide) h0 h1 hdg kk
theorem as_21 {own : String} {z x : Int} (C0 : Ct p s m args c g own cc nL) (hH : Hp g S s H locs) (h0 : 0 ≤ z) (h1 : z < 30) (hdg : decode cc pc = .ok (.iastore, 1)) (kk : ∀ (H1 : Heap) (locs1 : List Loc), Hp g (st S 21 z x) s H1 locs1 → W p l e R s m args below meth c H1 locs1 cells slots Q (F0 m (pc + 1) ls (rest))) : W p l e R s m args below meth c H locs cells slots Q (F0 m pc ls (.int (iI x) :: .int (iI z) :: .ref (g.1 21) :: rest)) :=
  asG C0 hH 21 30 rfl (by decide) rfl h0 h1 hdg kk
theorem al_22 {own : String} {z : Int} (C0 : Ct p s m args c g own cc nL) (hH : Hp g S s H locs) (h0 : 0 ≤ z) (h1 : z < 30) (hdg : decode cc pc = .ok (.iaload, 1)) (kk : W p l e R s m args below meth c H locs cells slots Q (F0 m (pc + 1) ls (.int (iI (S 22 z)) :: rest))) : W p l e R s m args below meth c H locs cells slots Q (F0 m pc ls (.int (iI z) :: .ref (g.1 22) :: rest)) :=
  alG C0 hH 22 30 rfl (by decide) h0 h1 hdg kk
theorem as_22 {own : String} {z x : Int} (C0 : Ct p s m args c g own cc nL) (hH : Hp g S s H locs) (h0 : 0 ≤ z) (h1 : z < 30) (hdg : decode cc pc = .ok (.iastore, 1)) (kk : ∀ (H1 : Heap) (locs1 : List Loc), Hp g (st S 22 z x) s H1 locs1 → W p l e R s m args below meth c H1 locs1 cells slots Q (F0 m (pc + 1) ls (rest))) : W p l e R s m args below meth c H locs cells slots Q (F0 m pc ls (.int (iI x) :: .int (iI z) :: .ref (g.1 22) :: rest)) :=
  asG C0 hH 22 30 rfl (by decide) rfl h0 h1 hdg kk
end ST
theorem kw_X6_44 : kwS RX6 44 yX6_needPlace cX6_needPlace 2 none := ⟨gm 187 (by decide +kernel) rfl, gm 188 (by decide +kernel) rfl, gm 189 (by decide +kernel) rfl, gm 17 (by decide +kernel) rfl⟩
theorem kw_X6_59 : kwV RX6 59 yX2_append cX2_append 4 (some .int) := ⟨gm 275 (by decide +kernel) rfl, gm 276 (by decide +kernel) rfl, gm 277 (by decide +kernel) rfl, gm 278 (by decide +kernel) rfl, gm 18 (by decide +kernel) rfl⟩
theorem kw_X6_63 : kwV RX6 63 yX6_needStar cX6_needStar 2 none := ⟨gm 287 (by decide +kernel) rfl, gm 289 (by decide +kernel) rfl, gm 1 (by decide +kernel) rfl, gm 290 (by decide +kernel) rfl, gm 17 (by decide +kernel) rfl⟩
theorem kw_X6_74 : kwV RX6 74 yX3_keep cX3_keep 6 none := ⟨gm 307 (by decide +kernel) rfl, gm 308 (by decide +kernel) rfl, gm 309 (by decide +kernel) rfl, gm 310 (by decide +kernel) rfl, gm 23 (by decide +kernel) rfl⟩
theorem kw_X6_78 : kwV RX6 78 yX2_move cX2_move 4 none := ⟨gm 314 (by decide +kernel) rfl, gm 280 (by decide +kernel) rfl, gm 281 (by decide +kernel) rfl, gm 282 (by decide +kernel) rfl, gm 18 (by decide +kernel) rfl⟩
theorem kw_X6_82 : kwV RX6 82 yX6_countWrongShows cX6_countWrongShows 3 (some .int) := ⟨gm 315 (by decide +kernel) rfl, gm 317 (by decide +kernel) rfl, gm 2 (by decide +kernel) rfl, gm 318 (by decide +kernel) rfl, gm 17 (by decide +kernel) rfl⟩
theorem kw_X6_91 : kwV RX6 91 yX5_appendFigure cX5_appendFigure 2 (some .int) := ⟨gm 354 (by decide +kernel) rfl, gm 355 (by decide +kernel) rfl, gm 356 (by decide +kernel) rfl, gm 357 (by decide +kernel) rfl, gm 19 (by decide +kernel) rfl⟩
theorem kw_X6_94 : kwV RX6 94 yX6_needFigure cX6_needFigure 2 none := ⟨gm 362 (by decide +kernel) rfl, gm 364 (by decide +kernel) rfl, gm 5 (by decide +kernel) rfl, gm 365 (by decide +kernel) rfl, gm 17 (by decide +kernel) rfl⟩
theorem kw_X6_107 : kwV RX6 107 yX5_joins cX5_joins 8 (some .boolean) := ⟨gm 511 (by decide +kernel) rfl, gm 512 (by decide +kernel) rfl, gm 513 (by decide +kernel) rfl, gm 514 (by decide +kernel) rfl, gm 19 (by decide +kernel) rfl⟩
theorem kw_X6_113 : kwV RX6 113 yX5_isOfAnother cX5_isOfAnother 4 (some .boolean) := ⟨gm 516 (by decide +kernel) rfl, gm 517 (by decide +kernel) rfl, gm 518 (by decide +kernel) rfl, gm 519 (by decide +kernel) rfl, gm 19 (by decide +kernel) rfl⟩
theorem kw_X6_119 : kwV RX6 119 yX5_insert cX5_insert 7 none := ⟨gm 522 (by decide +kernel) rfl, gm 523 (by decide +kernel) rfl, gm 524 (by decide +kernel) rfl, gm 525 (by decide +kernel) rfl, gm 19 (by decide +kernel) rfl⟩
theorem kw_X6_128 : kwS RX6 128 yX5_place cX5_place 2 (some .int) := ⟨gm 327 (by decide +kernel) rfl, gm 328 (by decide +kernel) rfl, gm 329 (by decide +kernel) rfl, gm 19 (by decide +kernel) rfl⟩
theorem kw_X6_137 : kwV RX6 137 yX5_remove cX5_remove 5 none := ⟨gm 368 (by decide +kernel) rfl, gm 369 (by decide +kernel) rfl, gm 370 (by decide +kernel) rfl, gm 371 (by decide +kernel) rfl, gm 19 (by decide +kernel) rfl⟩
theorem kw_X6_145 : kwV RX6 145 yX3_stepBack cX3_stepBack 1 none := ⟨gm 534 (by decide +kernel) rfl, gm 535 (by decide +kernel) rfl, gm 536 (by decide +kernel) rfl, gm 537 (by decide +kernel) rfl, gm 23 (by decide +kernel) rfl⟩
theorem kw_X6_151 : kwV RX6 151 yX6_takeBack cX6_takeBack 6 none := ⟨gm 538 (by decide +kernel) rfl, gm 540 (by decide +kernel) rfl, gm 14 (by decide +kernel) rfl, gm 541 (by decide +kernel) rfl, gm 17 (by decide +kernel) rfl⟩
theorem kw_X6_154 : kwV RX6 154 yX5_ownerOf cX5_ownerOf 3 (some .int) := ⟨gm 393 (by decide +kernel) rfl, gm 394 (by decide +kernel) rfl, gm 395 (by decide +kernel) rfl, gm 396 (by decide +kernel) rfl, gm 19 (by decide +kernel) rfl⟩
theorem kw_X6_158 : kwV RX6 158 yX6_linesCross cX6_linesCross 8 (some .boolean) := ⟨gm 405 (by decide +kernel) rfl, gm 407 (by decide +kernel) rfl, gm 7 (by decide +kernel) rfl, gm 408 (by decide +kernel) rfl, gm 17 (by decide +kernel) rfl⟩
theorem kw_X6_163 : kwS RX6 163 yX6_needName cX6_needName 1 none := ⟨gm 436 (by decide +kernel) rfl, gm 437 (by decide +kernel) rfl, gm 438 (by decide +kernel) rfl, gm 17 (by decide +kernel) rfl⟩
theorem kw_X6_166 : kwV RX6 166 yX1_replace cX1_replace 6 (some .int) := ⟨gm 440 (by decide +kernel) rfl, gm 441 (by decide +kernel) rfl, gm 442 (by decide +kernel) rfl, gm 443 (by decide +kernel) rfl, gm 20 (by decide +kernel) rfl⟩
theorem kw_X6_176 : kwS RX6 176 yX6_needLatitude cX6_needLatitude 1 none := ⟨gm 468 (by decide +kernel) rfl, gm 469 (by decide +kernel) rfl, gm 470 (by decide +kernel) rfl, gm 17 (by decide +kernel) rfl⟩
theorem kw_X6_179 : kwS RX6 179 yX6_needDay cX6_needDay 1 none := ⟨gm 472 (by decide +kernel) rfl, gm 473 (by decide +kernel) rfl, gm 474 (by decide +kernel) rfl, gm 17 (by decide +kernel) rfl⟩
theorem kw_X6_182 : kwS RX6 182 yX6_needHour cX6_needHour 1 none := ⟨gm 476 (by decide +kernel) rfl, gm 477 (by decide +kernel) rfl, gm 478 (by decide +kernel) rfl, gm 17 (by decide +kernel) rfl⟩
theorem kw_X6_185 : kwS RX6 185 yX6_skyTurn cX6_skyTurn 2 (some .int) := ⟨gm 480 (by decide +kernel) rfl, gm 481 (by decide +kernel) rfl, gm 482 (by decide +kernel) rfl, gm 17 (by decide +kernel) rfl⟩
theorem kw_X6_188 : kwV RX6 188 yX2_heightAt cX2_heightAt 7 (some .int) := ⟨gm 330 (by decide +kernel) rfl, gm 331 (by decide +kernel) rfl, gm 332 (by decide +kernel) rfl, gm 333 (by decide +kernel) rfl, gm 18 (by decide +kernel) rfl⟩
theorem kw_X6_191 : kwV RX6 191 yX6_figureIsUp cX6_figureIsUp 4 (some .boolean) := ⟨gm 483 (by decide +kernel) rfl, gm 485 (by decide +kernel) rfl, gm 13 (by decide +kernel) rfl, gm 486 (by decide +kernel) rfl, gm 17 (by decide +kernel) rfl⟩
theorem kw_X6_195 : kwV RX6 195 yX6_hoursOfStar cX6_hoursOfStar 6 (some .int) := ⟨gm 578 (by decide +kernel) rfl, gm 580 (by decide +kernel) rfl, gm 15 (by decide +kernel) rfl, gm 581 (by decide +kernel) rfl, gm 17 (by decide +kernel) rfl⟩
theorem kw_X6_198 : kwV RX6 198 yX6_lowestHeight cX6_lowestHeight 8 (some .int) := ⟨gm 323 (by decide +kernel) rfl, gm 325 (by decide +kernel) rfl, gm 4 (by decide +kernel) rfl, gm 326 (by decide +kernel) rfl, gm 17 (by decide +kernel) rfl⟩
theorem kw_X6_210 : kwV RX6 210 yX4_append cX4_append 6 (some .int) := ⟨gm 552 (by decide +kernel) rfl, gm 553 (by decide +kernel) rfl, gm 554 (by decide +kernel) rfl, gm 555 (by decide +kernel) rfl, gm 22 (by decide +kernel) rfl⟩
theorem kw_X6_215 : kwV RX6 215 yX6_showIsWrong cX6_showIsWrong 3 (some .boolean) := ⟨gm 319 (by decide +kernel) rfl, gm 321 (by decide +kernel) rfl, gm 3 (by decide +kernel) rfl, gm 322 (by decide +kernel) rfl, gm 17 (by decide +kernel) rfl⟩
theorem kw_X6_250 : kwV RX6 250 yX2_meet cX2_meet 5 (some .boolean) := ⟨gm 409 (by decide +kernel) rfl, gm 410 (by decide +kernel) rfl, gm 411 (by decide +kernel) rfl, gm 412 (by decide +kernel) rfl, gm 18 (by decide +kernel) rfl⟩
theorem kw_X6_254 : kwS RX6 254 yJ9_min_7cf53 cJ9_min_7cf53 2 (some .int) := ⟨gm 348 (by decide +kernel) rfl, gm 312 (by decide +kernel) rfl, gm 313 (by decide +kernel) rfl, gm 25 (by decide +kernel) rfl⟩
theorem kw_X0_9 : kwS RX0 9 yJ9_floorMod_7cf53 cJ9_floorMod_7cf53 3 (some .int) := ⟨gm 337 (by decide +kernel) rfl, gm 338 (by decide +kernel) rfl, gm 339 (by decide +kernel) rfl, gm 25 (by decide +kernel) rfl⟩
theorem kw_X0_18 : kwS RX0 18 yX0_sine cX0_sine 6 (some .int) := ⟨gm 344 (by decide +kernel) rfl, gm 335 (by decide +kernel) rfl, gm 336 (by decide +kernel) rfl, gm 24 (by decide +kernel) rfl⟩
theorem kw_X1_21 : kwS RX1 21 yJ7_fill_53178 cJ7_fill_53178 4 none := ⟨gm 90 (by decide +kernel) rfl, gm 91 (by decide +kernel) rfl, gm 92 (by decide +kernel) rfl, gm 21 (by decide +kernel) rfl⟩
theorem kw_X1_27 : kwV RX1 27 yX1_count cX1_count 4 none := ⟨gm 444 (by decide +kernel) rfl, gm 446 (by decide +kernel) rfl, gm 10 (by decide +kernel) rfl, gm 447 (by decide +kernel) rfl, gm 20 (by decide +kernel) rfl⟩
theorem kw_X1_31 : kwV RX1 31 yX1_giveNames cX1_giveNames 4 none := ⟨gm 448 (by decide +kernel) rfl, gm 450 (by decide +kernel) rfl, gm 11 (by decide +kernel) rfl, gm 451 (by decide +kernel) rfl, gm 20 (by decide +kernel) rfl⟩
theorem kw_X1_34 : kwV RX1 34 yX1_giveName cX1_giveName 6 (some .int) := ⟨gm 452 (by decide +kernel) rfl, gm 454 (by decide +kernel) rfl, gm 12 (by decide +kernel) rfl, gm 455 (by decide +kernel) rfl, gm 20 (by decide +kernel) rfl⟩
theorem kw_X2_22 : kwV RX2 22 yX2_move cX2_move 4 none := ⟨gm 279 (by decide +kernel) rfl, gm 280 (by decide +kernel) rfl, gm 281 (by decide +kernel) rfl, gm 282 (by decide +kernel) rfl, gm 18 (by decide +kernel) rfl⟩
theorem kw_X2_26 : kwS RX2 26 yX0_sine cX0_sine 6 (some .int) := ⟨gm 334 (by decide +kernel) rfl, gm 335 (by decide +kernel) rfl, gm 336 (by decide +kernel) rfl, gm 24 (by decide +kernel) rfl⟩
theorem kw_X2_32 : kwS RX2 32 yX0_cosine cX0_cosine 1 (some .int) := ⟨gm 341 (by decide +kernel) rfl, gm 342 (by decide +kernel) rfl, gm 343 (by decide +kernel) rfl, gm 24 (by decide +kernel) rfl⟩
theorem kw_X2_35 : kwS RX2 35 yJ9_floorDiv_7cf53 cJ9_floorDiv_7cf53 3 (some .int) := ⟨gm 345 (by decide +kernel) rfl, gm 346 (by decide +kernel) rfl, gm 347 (by decide +kernel) rfl, gm 25 (by decide +kernel) rfl⟩
theorem kw_X2_41 : kwS RX2 41 yX2_spansOverlap cX2_spansOverlap 4 (some .boolean) := ⟨gm 413 (by decide +kernel) rfl, gm 414 (by decide +kernel) rfl, gm 415 (by decide +kernel) rfl, gm 18 (by decide +kernel) rfl⟩
theorem kw_X2_45 : kwV RX2 45 yX2_straddles cX2_straddles 5 (some .boolean) := ⟨gm 420 (by decide +kernel) rfl, gm 422 (by decide +kernel) rfl, gm 8 (by decide +kernel) rfl, gm 423 (by decide +kernel) rfl, gm 18 (by decide +kernel) rfl⟩
theorem kw_X2_48 : kwS RX2 48 yJ9_max_7cf53 cJ9_max_7cf53 2 (some .int) := ⟨gm 416 (by decide +kernel) rfl, gm 417 (by decide +kernel) rfl, gm 418 (by decide +kernel) rfl, gm 25 (by decide +kernel) rfl⟩
theorem kw_X2_51 : kwS RX2 51 yJ9_min_7cf53 cJ9_min_7cf53 2 (some .int) := ⟨gm 419 (by decide +kernel) rfl, gm 312 (by decide +kernel) rfl, gm 313 (by decide +kernel) rfl, gm 25 (by decide +kernel) rfl⟩
theorem kw_X2_54 : kwV RX2 54 yX2_sideOf cX2_sideOf 4 (some .int) := ⟨gm 424 (by decide +kernel) rfl, gm 426 (by decide +kernel) rfl, gm 9 (by decide +kernel) rfl, gm 427 (by decide +kernel) rfl, gm 18 (by decide +kernel) rfl⟩
theorem kw_X2_58 : kwS RX2 58 yJ6_compare_7cf53 cJ6_compare_7cf53 2 (some .int) := ⟨gm 428 (by decide +kernel) rfl, gm 429 (by decide +kernel) rfl, gm 430 (by decide +kernel) rfl, gm 32 (by decide +kernel) rfl⟩
theorem kw_X3_34 : kwS RX3 34 yJ9_min_7cf53 cJ9_min_7cf53 2 (some .int) := ⟨gm 311 (by decide +kernel) rfl, gm 312 (by decide +kernel) rfl, gm 313 (by decide +kernel) rfl, gm 25 (by decide +kernel) rfl⟩
theorem kw_X5_25 : kwS RX5 25 yX5_place cX5_place 2 (some .int) := ⟨gm 372 (by decide +kernel) rfl, gm 328 (by decide +kernel) rfl, gm 329 (by decide +kernel) rfl, gm 19 (by decide +kernel) rfl⟩
theorem kw_X5_29 : kwV RX5 29 yX5_hasStar cX5_hasStar 5 (some .boolean) := ⟨gm 397 (by decide +kernel) rfl, gm 399 (by decide +kernel) rfl, gm 6 (by decide +kernel) rfl, gm 400 (by decide +kernel) rfl, gm 19 (by decide +kernel) rfl⟩
theorem kw_X5_33 : kwV RX5 33 yX5_ownerOf cX5_ownerOf 3 (some .int) := ⟨gm 520 (by decide +kernel) rfl, gm 394 (by decide +kernel) rfl, gm 395 (by decide +kernel) rfl, gm 396 (by decide +kernel) rfl, gm 19 (by decide +kernel) rfl⟩
theorem kw_L_7 : kwV RL 7 yX6_draw cX6_draw 5 (some .int) := ⟨gm 505 (by decide +kernel) rfl, gm 506 (by decide +kernel) rfl, gm 507 (by decide +kernel) rfl, gm 508 (by decide +kernel) rfl, gm 17 (by decide +kernel) rfl⟩
theorem kw_L_17 : kwV RL 17 yX6_undo cX6_undo 1 (some .int) := ⟨gm 529 (by decide +kernel) rfl, gm 530 (by decide +kernel) rfl, gm 531 (by decide +kernel) rfl, gm 532 (by decide +kernel) rfl, gm 17 (by decide +kernel) rfl⟩
theorem kw_L_21 : kwV RL 21 yX6_plan cX6_plan 7 (some .int) := ⟨gm 545 (by decide +kernel) rfl, gm 546 (by decide +kernel) rfl, gm 547 (by decide +kernel) rfl, gm 548 (by decide +kernel) rfl, gm 17 (by decide +kernel) rfl⟩
theorem kw_L_27 : kwV RL 27 yX6_stars cX6_stars 1 (some .int) := ⟨gm 373 (by decide +kernel) rfl, gm 374 (by decide +kernel) rfl, gm 375 (by decide +kernel) rfl, gm 376 (by decide +kernel) rfl, gm 17 (by decide +kernel) rfl⟩
theorem kw_L_32 : kwV RL 32 yX6_placeOf cX6_placeOf 2 (some .int) := ⟨gm 385 (by decide +kernel) rfl, gm 386 (by decide +kernel) rfl, gm 387 (by decide +kernel) rfl, gm 388 (by decide +kernel) rfl, gm 17 (by decide +kernel) rfl⟩
theorem kw_L_38 : kwV RL 38 yX6_figureOf cX6_figureOf 2 (some .int) := ⟨gm 389 (by decide +kernel) rfl, gm 390 (by decide +kernel) rfl, gm 391 (by decide +kernel) rfl, gm 392 (by decide +kernel) rfl, gm 17 (by decide +kernel) rfl⟩
theorem kw_L_41 : kwV RL 41 yX6_figures cX6_figures 1 (some .int) := ⟨gm 377 (by decide +kernel) rfl, gm 378 (by decide +kernel) rfl, gm 379 (by decide +kernel) rfl, gm 380 (by decide +kernel) rfl, gm 17 (by decide +kernel) rfl⟩
theorem kw_L_44 : kwV RL 44 yX6_lines cX6_lines 2 (some .int) := ⟨gm 381 (by decide +kernel) rfl, gm 382 (by decide +kernel) rfl, gm 383 (by decide +kernel) rfl, gm 384 (by decide +kernel) rfl, gm 17 (by decide +kernel) rfl⟩
theorem kw_L_49 : kwV RL 49 yX6_crossings cX6_crossings 7 (some .int) := ⟨gm 401 (by decide +kernel) rfl, gm 402 (by decide +kernel) rfl, gm 403 (by decide +kernel) rfl, gm 404 (by decide +kernel) rfl, gm 17 (by decide +kernel) rfl⟩
theorem kw_L_53 : kwV RL 53 yX6_nameOf cX6_nameOf 2 (some .int) := ⟨gm 460 (by decide +kernel) rfl, gm 461 (by decide +kernel) rfl, gm 462 (by decide +kernel) rfl, gm 463 (by decide +kernel) rfl, gm 17 (by decide +kernel) rfl⟩
theorem kw_L_56 : kwV RL 56 yX6_votes cX6_votes 3 (some .int) := ⟨gm 456 (by decide +kernel) rfl, gm 457 (by decide +kernel) rfl, gm 458 (by decide +kernel) rfl, gm 459 (by decide +kernel) rfl, gm 17 (by decide +kernel) rfl⟩
theorem kw_L_59 : kwV RL 59 yX6_hours cX6_hours 6 (some .int) := ⟨gm 569 (by decide +kernel) rfl, gm 570 (by decide +kernel) rfl, gm 571 (by decide +kernel) rfl, gm 572 (by decide +kernel) rfl, gm 17 (by decide +kernel) rfl⟩
theorem kw_L_62 : kwV RL 62 yX6_bestHour cX6_bestHour 8 (some .int) := ⟨gm 487 (by decide +kernel) rfl, gm 488 (by decide +kernel) rfl, gm 489 (by decide +kernel) rfl, gm 490 (by decide +kernel) rfl, gm 17 (by decide +kernel) rfl⟩
theorem kw_L_65 : kwV RL 65 yX6_hoursByStars cX6_hoursByStars 8 (some .int) := ⟨gm 573 (by decide +kernel) rfl, gm 574 (by decide +kernel) rfl, gm 575 (by decide +kernel) rfl, gm 576 (by decide +kernel) rfl, gm 17 (by decide +kernel) rfl⟩
theorem kw_L_68 : kwV RL 68 yX6_isUp cX6_isUp 5 (some .boolean) := ⟨gm 464 (by decide +kernel) rfl, gm 465 (by decide +kernel) rfl, gm 466 (by decide +kernel) rfl, gm 467 (by decide +kernel) rfl, gm 17 (by decide +kernel) rfl⟩
theorem kw_L_72 : kwV RL 72 yX6_height cX6_height 5 (some .int) := ⟨gm 582 (by decide +kernel) rfl, gm 583 (by decide +kernel) rfl, gm 584 (by decide +kernel) rfl, gm 585 (by decide +kernel) rfl, gm 17 (by decide +kernel) rfl⟩
theorem kw_L_76 : kwV RL 76 yX6_wrong cX6_wrong 1 (some .int) := ⟨gm 496 (by decide +kernel) rfl, gm 497 (by decide +kernel) rfl, gm 498 (by decide +kernel) rfl, gm 499 (by decide +kernel) rfl, gm 17 (by decide +kernel) rfl⟩
theorem kw_L_82 : kwV RL 82 yX6_addStar cX6_addStar 3 (some .int) := ⟨gm 183 (by decide +kernel) rfl, gm 184 (by decide +kernel) rfl, gm 185 (by decide +kernel) rfl, gm 186 (by decide +kernel) rfl, gm 17 (by decide +kernel) rfl⟩
theorem kw_L_85 : kwV RL 85 yX6_addFigure cX6_addFigure 1 (some .int) := ⟨gm 349 (by decide +kernel) rfl, gm 350 (by decide +kernel) rfl, gm 351 (by decide +kernel) rfl, gm 352 (by decide +kernel) rfl, gm 17 (by decide +kernel) rfl⟩
theorem kw_L_88 : kwS RL 88 yL_print cL_print 4 (some .long) := ⟨gm 556 (by decide +kernel) rfl, gm 557 (by decide +kernel) rfl, gm 558 (by decide +kernel) rfl, gm 16 (by decide +kernel) rfl⟩
theorem kw_L_94 : kwV RL 94 yX6_correct cX6_correct 4 (some .int) := ⟨gm 283 (by decide +kernel) rfl, gm 284 (by decide +kernel) rfl, gm 285 (by decide +kernel) rfl, gm 286 (by decide +kernel) rfl, gm 17 (by decide +kernel) rfl⟩
theorem kw_L_101 : kwV RL 101 yX6_erase cX6_erase 4 (some .int) := ⟨gm 358 (by decide +kernel) rfl, gm 359 (by decide +kernel) rfl, gm 360 (by decide +kernel) rfl, gm 361 (by decide +kernel) rfl, gm 17 (by decide +kernel) rfl⟩
theorem kw_L_108 : kwV RL 108 yX6_vote cX6_vote 4 (some .int) := ⟨gm 431 (by decide +kernel) rfl, gm 432 (by decide +kernel) rfl, gm 433 (by decide +kernel) rfl, gm 434 (by decide +kernel) rfl, gm 17 (by decide +kernel) rfl⟩
theorem kw_L_115 : kwV RL 115 yX6_isWrong cX6_isWrong 2 (some .boolean) := ⟨gm 491 (by decide +kernel) rfl, gm 492 (by decide +kernel) rfl, gm 493 (by decide +kernel) rfl, gm 494 (by decide +kernel) rfl, gm 17 (by decide +kernel) rfl⟩
theorem kw_L_119 : kwS RL 119 yL_areNames cL_areNames 8 (some .boolean) := ⟨gm 563 (by decide +kernel) rfl, gm 564 (by decide +kernel) rfl, gm 565 (by decide +kernel) rfl, gm 16 (by decide +kernel) rfl⟩
theorem kw_L_123 : kwS RL 123 yL_areHours cL_areHours 13 (some .boolean) := ⟨gm 566 (by decide +kernel) rfl, gm 567 (by decide +kernel) rfl, gm 568 (by decide +kernel) rfl, gm 16 (by decide +kernel) rfl⟩
theorem ky_X6_needPlace : kyn yX6_needPlace 2 := ⟨by decide +kernel, by decide +kernel, by decide +kernel⟩
theorem ky_X2_append : kyn yX2_append 2 := ⟨by decide +kernel, by decide +kernel, by decide +kernel⟩
theorem ky_X6_needStar : kyn yX6_needStar 1 := ⟨by decide +kernel, by decide +kernel, by decide +kernel⟩
theorem ky_X3_keep : kyn yX3_keep 5 := ⟨by decide +kernel, by decide +kernel, by decide +kernel⟩
theorem ky_X2_move : kyn yX2_move 3 := ⟨by decide +kernel, by decide +kernel, by decide +kernel⟩
theorem ky_X6_countWrongShows : kyn yX6_countWrongShows 0 := ⟨by decide +kernel, by decide +kernel, by decide +kernel⟩
theorem ky_X5_appendFigure : kyn yX5_appendFigure 0 := ⟨by decide +kernel, by decide +kernel, by decide +kernel⟩
theorem ky_X6_needFigure : kyn yX6_needFigure 1 := ⟨by decide +kernel, by decide +kernel, by decide +kernel⟩
theorem ky_X5_joins : kyn yX5_joins 3 := ⟨by decide +kernel, by decide +kernel, by decide +kernel⟩
theorem ky_X5_isOfAnother : kyn yX5_isOfAnother 2 := ⟨by decide +kernel, by decide +kernel, by decide +kernel⟩
theorem ky_X5_insert : kyn yX5_insert 4 := ⟨by decide +kernel, by decide +kernel, by decide +kernel⟩
theorem ky_X5_place : kyn yX5_place 2 := ⟨by decide +kernel, by decide +kernel, by decide +kernel⟩
theorem ky_X5_remove : kyn yX5_remove 2 := ⟨by decide +kernel, by decide +kernel, by decide +kernel⟩
theorem ky_X3_stepBack : kyn yX3_stepBack 0 := ⟨by decide +kernel, by decide +kernel, by decide +kernel⟩
theorem ky_X6_takeBack : kyn yX6_takeBack 1 := ⟨by decide +kernel, by decide +kernel, by decide +kernel⟩
theorem ky_X5_ownerOf : kyn yX5_ownerOf 1 := ⟨by decide +kernel, by decide +kernel, by decide +kernel⟩
theorem ky_X6_linesCross : kyn yX6_linesCross 2 := ⟨by decide +kernel, by decide +kernel, by decide +kernel⟩
theorem ky_X6_needName : kyn yX6_needName 1 := ⟨by decide +kernel, by decide +kernel, by decide +kernel⟩
theorem ky_X1_replace : kyn yX1_replace 3 := ⟨by decide +kernel, by decide +kernel, by decide +kernel⟩
theorem ky_X6_needLatitude : kyn yX6_needLatitude 1 := ⟨by decide +kernel, by decide +kernel, by decide +kernel⟩
theorem ky_X6_needDay : kyn yX6_needDay 1 := ⟨by decide +kernel, by decide +kernel, by decide +kernel⟩
theorem ky_X6_needHour : kyn yX6_needHour 1 := ⟨by decide +kernel, by decide +kernel, by decide +kernel⟩
theorem ky_X6_skyTurn : kyn yX6_skyTurn 2 := ⟨by decide +kernel, by decide +kernel, by decide +kernel⟩
theorem ky_X2_heightAt : kyn yX2_heightAt 3 := ⟨by decide +kernel, by decide +kernel, by decide +kernel⟩
theorem ky_X6_figureIsUp : kyn yX6_figureIsUp 3 := ⟨by decide +kernel, by decide +kernel, by decide +kernel⟩
theorem ky_X6_hoursOfStar : kyn yX6_hoursOfStar 3 := ⟨by decide +kernel, by decide +kernel, by decide +kernel⟩
theorem ky_X6_lowestHeight : kyn yX6_lowestHeight 3 := ⟨by decide +kernel, by decide +kernel, by decide +kernel⟩
theorem ky_X4_append : kyn yX4_append 4 := ⟨by decide +kernel, by decide +kernel, by decide +kernel⟩
theorem ky_X6_showIsWrong : kyn yX6_showIsWrong 1 := ⟨by decide +kernel, by decide +kernel, by decide +kernel⟩
theorem ky_X2_meet : kyn yX2_meet 4 := ⟨by decide +kernel, by decide +kernel, by decide +kernel⟩
theorem ky_J9_min_7cf53 : kyn yJ9_min_7cf53 2 := ⟨by decide +kernel, by decide +kernel, by decide +kernel⟩
theorem ky_J9_floorMod_7cf53 : kyn yJ9_floorMod_7cf53 2 := ⟨by decide +kernel, by decide +kernel, by decide +kernel⟩
theorem ky_X0_sine : kyn yX0_sine 1 := ⟨by decide +kernel, by decide +kernel, by decide +kernel⟩
theorem ky_J7_fill_53178 : kyn yJ7_fill_53178 2 := ⟨by decide +kernel, by decide +kernel, by decide +kernel⟩
theorem ky_X1_count : kyn yX1_count 3 := ⟨by decide +kernel, by decide +kernel, by decide +kernel⟩
theorem ky_X1_giveNames : kyn yX1_giveNames 0 := ⟨by decide +kernel, by decide +kernel, by decide +kernel⟩
theorem ky_X1_giveName : kyn yX1_giveName 3 := ⟨by decide +kernel, by decide +kernel, by decide +kernel⟩
theorem ky_X0_cosine : kyn yX0_cosine 1 := ⟨by decide +kernel, by decide +kernel, by decide +kernel⟩
theorem ky_J9_floorDiv_7cf53 : kyn yJ9_floorDiv_7cf53 2 := ⟨by decide +kernel, by decide +kernel, by decide +kernel⟩
theorem ky_X2_spansOverlap : kyn yX2_spansOverlap 4 := ⟨by decide +kernel, by decide +kernel, by decide +kernel⟩
theorem ky_X2_straddles : kyn yX2_straddles 4 := ⟨by decide +kernel, by decide +kernel, by decide +kernel⟩
theorem ky_J9_max_7cf53 : kyn yJ9_max_7cf53 2 := ⟨by decide +kernel, by decide +kernel, by decide +kernel⟩
theorem ky_X2_sideOf : kyn yX2_sideOf 3 := ⟨by decide +kernel, by decide +kernel, by decide +kernel⟩
theorem ky_J6_compare_7cf53 : kyn yJ6_compare_7cf53 2 := ⟨by decide +kernel, by decide +kernel, by decide +kernel⟩
theorem ky_X5_hasStar : kyn yX5_hasStar 2 := ⟨by decide +kernel, by decide +kernel, by decide +kernel⟩
theorem ky_X6_draw : kyn yX6_draw 3 := ⟨by decide +kernel, by decide +kernel, by decide +kernel⟩
theorem ky_X6_undo : kyn yX6_undo 0 := ⟨by decide +kernel, by decide +kernel, by decide +kernel⟩
theorem ky_X6_plan : kyn yX6_plan 4 := ⟨by decide +kernel, by decide +kernel, by decide +kernel⟩
theorem ky_X6_stars : kyn yX6_stars 0 := ⟨by decide +kernel, by decide +kernel, by decide +kernel⟩
theorem ky_X6_placeOf : kyn yX6_placeOf 1 := ⟨by decide +kernel, by decide +kernel, by decide +kernel⟩
theorem ky_X6_figureOf : kyn yX6_figureOf 1 := ⟨by decide +kernel, by decide +kernel, by decide +kernel⟩
theorem ky_X6_figures : kyn yX6_figures 0 := ⟨by decide +kernel, by decide +kernel, by decide +kernel⟩
theorem ky_X6_lines : kyn yX6_lines 1 := ⟨by decide +kernel, by decide +kernel, by decide +kernel⟩
theorem ky_X6_crossings : kyn yX6_crossings 2 := ⟨by decide +kernel, by decide +kernel, by decide +kernel⟩
theorem ky_X6_nameOf : kyn yX6_nameOf 1 := ⟨by decide +kernel, by decide +kernel, by decide +kernel⟩
theorem ky_X6_votes : kyn yX6_votes 2 := ⟨by decide +kernel, by decide +kernel, by decide +kernel⟩
theorem ky_X6_hours : kyn yX6_hours 3 := ⟨by decide +kernel, by decide +kernel, by decide +kernel⟩
theorem ky_X6_bestHour : kyn yX6_bestHour 3 := ⟨by decide +kernel, by decide +kernel, by decide +kernel⟩
theorem ky_X6_hoursByStars : kyn yX6_hoursByStars 3 := ⟨by decide +kernel, by decide +kernel, by decide +kernel⟩
theorem ky_X6_isUp : kyn yX6_isUp 4 := ⟨by decide +kernel, by decide +kernel, by decide +kernel⟩
theorem ky_X6_height : kyn yX6_height 4 := ⟨by decide +kernel, by decide +kernel, by decide +kernel⟩
theorem ky_X6_wrong : kyn yX6_wrong 0 := ⟨by decide +kernel, by decide +kernel, by decide +kernel⟩
theorem ky_X6_addStar : kyn yX6_addStar 2 := ⟨by decide +kernel, by decide +kernel, by decide +kernel⟩
theorem ky_X6_addFigure : kyn yX6_addFigure 0 := ⟨by decide +kernel, by decide +kernel, by decide +kernel⟩
theorem ky_L_print : kyn yL_print 1 := ⟨by decide +kernel, by decide +kernel, by decide +kernel⟩
theorem ky_X6_correct : kyn yX6_correct 3 := ⟨by decide +kernel, by decide +kernel, by decide +kernel⟩
theorem ky_L_draws : kyn yL_draws 4 := ⟨by decide +kernel, by decide +kernel, by decide +kernel⟩
theorem ky_X6_erase : kyn yX6_erase 2 := ⟨by decide +kernel, by decide +kernel, by decide +kernel⟩
theorem ky_L_undoes : kyn yL_undoes 1 := ⟨by decide +kernel, by decide +kernel, by decide +kernel⟩
theorem ky_X6_vote : kyn yX6_vote 3 := ⟨by decide +kernel, by decide +kernel, by decide +kernel⟩
theorem ky_L_plans : kyn yL_plans 5 := ⟨by decide +kernel, by decide +kernel, by decide +kernel⟩
theorem ky_X6_isWrong : kyn yX6_isWrong 1 := ⟨by decide +kernel, by decide +kernel, by decide +kernel⟩
theorem ky_L_areNames : kyn yL_areNames 1 := ⟨by decide +kernel, by decide +kernel, by decide +kernel⟩
theorem ky_L_areHours : kyn yL_areHours 5 := ⟨by decide +kernel, by decide +kernel, by decide +kernel⟩
