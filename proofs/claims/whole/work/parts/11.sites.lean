theorem glAll : ∀ (ws : List Cond) (is : List Nat), ws.map some = is.map (fun i => lw_tbl[i]?) → ws.all goodWord = true → ∀ w ∈ ws, w ∈ GL := by
  intro ws is h hg w hw
  have h1 : some w ∈ ws.map some := List.mem_map.mpr ⟨w, hw, rfl⟩
  rw [h] at h1
  obtain ⟨i, -, hi⟩ := List.mem_map.mp h1
  exact gm i hi (List.all_eq_true.mp hg w hw)
theorem inG1 : ∀ w ∈ u_ws RX1 TX1 3, w ∈ GL := glAll _ [120, 122, 124] (by decide +kernel) (by decide +kernel)
theorem inG2 : ∀ w ∈ u_ws RX2 TX2 3, w ∈ GL := glAll _ [75, 77, 79] (by decide +kernel) (by decide +kernel)
theorem inG3 : ∀ w ∈ u_ws RX3 TX3 7, w ∈ GL := glAll _ [174, 176, 178, 180, 182, 184, 186] (by decide +kernel) (by decide +kernel)
theorem inG4 : ∀ w ∈ u_ws RX4 TX4 5, w ∈ GL := glAll _ [143, 145, 147, 149, 151] (by decide +kernel) (by decide +kernel)
theorem inG5 : ∀ w ∈ u_ws RX5 TX5 4, w ∈ GL := glAll _ [97, 99, 101, 103] (by decide +kernel) (by decide +kernel)
theorem inG6 : ∀ w ∈ u_ws RX6 TX6 5, w ∈ GL := glAll _ [194, 196, 198, 200, 202] (by decide +kernel) (by decide +kernel)
theorem inG7 : ∀ w ∈ u_ws RX7 TX7 14, w ∈ GL := glAll _ [674, 676, 678, 680, 682, 684, 686, 688, 690, 692, 694, 696, 698, 700] (by decide +kernel) (by decide +kernel)
section ST
variable {p : Program} {l : Launch} {e : Env} {R : Room} {s : State} {m : MethodId} {args : Array Value} {below : List Frame} {meth : Method} {c : Code} {H : Heap} {locs : List Loc} {cells slots : Nat} {Q : State → Prop} {g : gT} {cc : ByteArray} {nL : Nat} {S : gSt} {pc : Nat} {ls : Array Slot} {rest : List Value}
theorem gf_X6_12 (C0 : Ct p s m args c g RX6 cc nL) (hH : Hp g S s H locs) (hdg : decode cc pc = .ok (.getfield 12, 3)) (kk : W p l e R s m args below meth c H locs cells slots Q (F0 m (pc + 3) ls (.ref (g.1 1) :: rest))) : W p l e R s m args below meth c H locs cells slots Q (F0 m pc ls (.ref (g.1 0) :: rest)) :=
  gfG (ref := RX6) (C := RX6) (T := TX6) (N := 5) (ci := 5) C0 hH 0 rfl rfl inG6 0 (by decide) (gm 189 (by decide +kernel) rfl) rfl rfl hdg kk
theorem gf_X6_19 (C0 : Ct p s m args c g RX6 cc nL) (hH : Hp g S s H locs) (hdg : decode cc pc = .ok (.getfield 19, 3)) (kk : W p l e R s m args below meth c H locs cells slots Q (F0 m (pc + 3) ls (.ref (g.1 4) :: rest))) : W p l e R s m args below meth c H locs cells slots Q (F0 m pc ls (.ref (g.1 0) :: rest)) :=
  gfG (ref := RX6) (C := RX6) (T := TX6) (N := 5) (ci := 5) C0 hH 0 rfl rfl inG6 1 (by decide) (gm 190 (by decide +kernel) rfl) rfl rfl hdg kk
theorem gf_X6_26 (C0 : Ct p s m args c g RX6 cc nL) (hH : Hp g S s H locs) (hdg : decode cc pc = .ok (.getfield 26, 3)) (kk : W p l e R s m args below meth c H locs cells slots Q (F0 m (pc + 3) ls (.ref (g.1 8) :: rest))) : W p l e R s m args below meth c H locs cells slots Q (F0 m pc ls (.ref (g.1 0) :: rest)) :=
  gfG (ref := RX6) (C := RX6) (T := TX6) (N := 5) (ci := 5) C0 hH 0 rfl rfl inG6 2 (by decide) (gm 191 (by decide +kernel) rfl) rfl rfl hdg kk
theorem gf_X6_33 (C0 : Ct p s m args c g RX6 cc nL) (hH : Hp g S s H locs) (hdg : decode cc pc = .ok (.getfield 33, 3)) (kk : W p l e R s m args below meth c H locs cells slots Q (F0 m (pc + 3) ls (.ref (g.1 12) :: rest))) : W p l e R s m args below meth c H locs cells slots Q (F0 m pc ls (.ref (g.1 0) :: rest)) :=
  gfG (ref := RX6) (C := RX6) (T := TX6) (N := 5) (ci := 5) C0 hH 0 rfl rfl inG6 3 (by decide) (gm 192 (by decide +kernel) rfl) rfl rfl hdg kk
theorem gf_X6_40 (C0 : Ct p s m args c g RX6 cc nL) (hH : Hp g S s H locs) (hdg : decode cc pc = .ok (.getfield 40, 3)) (kk : W p l e R s m args below meth c H locs cells slots Q (F0 m (pc + 3) ls (.ref (g.1 17) :: rest))) : W p l e R s m args below meth c H locs cells slots Q (F0 m pc ls (.ref (g.1 0) :: rest)) :=
  gfG (ref := RX6) (C := RX6) (T := TX6) (N := 5) (ci := 5) C0 hH 0 rfl rfl inG6 4 (by decide) (gm 193 (by decide +kernel) rfl) rfl rfl hdg kk
theorem gf_X6_48 (C0 : Ct p s m args c g RX6 cc nL) (hH : Hp g S s H locs) (hdg : decode cc pc = .ok (.getfield 48, 3)) (kk : W p l e R s m args below meth c H locs cells slots Q (F0 m (pc + 3) ls (.int (iI (S 1 0)) :: rest))) : W p l e R s m args below meth c H locs cells slots Q (F0 m pc ls (.ref (g.1 1) :: rest)) :=
  gnG (ref := RX2) (C := RX2) (host := "SkyLoom") (T := TX2) (N := 3) (ci := 1) C0 hH 1 rfl rfl inG2 0 (by decide) (nmm 70 (by decide +kernel) rfl) rfl rfl hdg kk
theorem gf_X6_67 (C0 : Ct p s m args c g RX6 cc nL) (hH : Hp g S s H locs) (hdg : decode cc pc = .ok (.getfield 67, 3)) (kk : W p l e R s m args below meth c H locs cells slots Q (F0 m (pc + 3) ls (.ref (g.1 2) :: rest))) : W p l e R s m args below meth c H locs cells slots Q (F0 m pc ls (.ref (g.1 1) :: rest)) :=
  gnG (ref := RX2) (C := RX2) (host := "SkyLoom") (T := TX2) (N := 3) (ci := 1) C0 hH 1 rfl rfl inG2 1 (by decide) (nmm 72 (by decide +kernel) rfl) rfl rfl hdg kk
theorem gf_X6_71 (C0 : Ct p s m args c g RX6 cc nL) (hH : Hp g S s H locs) (hdg : decode cc pc = .ok (.getfield 71, 3)) (kk : W p l e R s m args below meth c H locs cells slots Q (F0 m (pc + 3) ls (.ref (g.1 3) :: rest))) : W p l e R s m args below meth c H locs cells slots Q (F0 m pc ls (.ref (g.1 1) :: rest)) :=
  gnG (ref := RX2) (C := RX2) (host := "SkyLoom") (T := TX2) (N := 3) (ci := 1) C0 hH 1 rfl rfl inG2 2 (by decide) (nmm 74 (by decide +kernel) rfl) rfl rfl hdg kk
theorem gf_X6_86 (C0 : Ct p s m args c g RX6 cc nL) (hH : Hp g S s H locs) (hdg : decode cc pc = .ok (.getfield 86, 3)) (kk : W p l e R s m args below meth c H locs cells slots Q (F0 m (pc + 3) ls (.int (iI (S 4 0)) :: rest))) : W p l e R s m args below meth c H locs cells slots Q (F0 m pc ls (.ref (g.1 4) :: rest)) :=
  gnG (ref := RX5) (C := RX5) (host := "SkyLoom") (T := TX5) (N := 4) (ci := 4) C0 hH 4 rfl rfl inG5 0 (by decide) (nmm 90 (by decide +kernel) rfl) rfl rfl hdg kk
theorem gf_X6_102 (C0 : Ct p s m args c g RX6 cc nL) (hH : Hp g S s H locs) (hdg : decode cc pc = .ok (.getfield 102, 3)) (kk : W p l e R s m args below meth c H locs cells slots Q (F0 m (pc + 3) ls (.ref (g.1 5) :: rest))) : W p l e R s m args below meth c H locs cells slots Q (F0 m pc ls (.ref (g.1 4) :: rest)) :=
  gnG (ref := RX5) (C := RX5) (host := "SkyLoom") (T := TX5) (N := 4) (ci := 4) C0 hH 4 rfl rfl inG5 1 (by decide) (nmm 92 (by decide +kernel) rfl) rfl rfl hdg kk
theorem gf_X6_131 (C0 : Ct p s m args c g RX6 cc nL) (hH : Hp g S s H locs) (hdg : decode cc pc = .ok (.getfield 131, 3)) (kk : W p l e R s m args below meth c H locs cells slots Q (F0 m (pc + 3) ls (.ref (g.1 6) :: rest))) : W p l e R s m args below meth c H locs cells slots Q (F0 m pc ls (.ref (g.1 4) :: rest)) :=
  gnG (ref := RX5) (C := RX5) (host := "SkyLoom") (T := TX5) (N := 4) (ci := 4) C0 hH 4 rfl rfl inG5 2 (by decide) (nmm 94 (by decide +kernel) rfl) rfl rfl hdg kk
theorem gf_X6_134 (C0 : Ct p s m args c g RX6 cc nL) (hH : Hp g S s H locs) (hdg : decode cc pc = .ok (.getfield 134, 3)) (kk : W p l e R s m args below meth c H locs cells slots Q (F0 m (pc + 3) ls (.ref (g.1 7) :: rest))) : W p l e R s m args below meth c H locs cells slots Q (F0 m pc ls (.ref (g.1 4) :: rest)) :=
  gnG (ref := RX5) (C := RX5) (host := "SkyLoom") (T := TX5) (N := 4) (ci := 4) C0 hH 4 rfl rfl inG5 3 (by decide) (nmm 96 (by decide +kernel) rfl) rfl rfl hdg kk
theorem gf_X6_140 (C0 : Ct p s m args c g RX6 cc nL) (hH : Hp g S s H locs) (hdg : decode cc pc = .ok (.getfield 140, 3)) (kk : W p l e R s m args below meth c H locs cells slots Q (F0 m (pc + 3) ls (.int (iI (S 17 1)) :: rest))) : W p l e R s m args below meth c H locs cells slots Q (F0 m pc ls (.ref (g.1 17) :: rest)) :=
  gnG (ref := RX3) (C := RX3) (host := "SkyLoom") (T := TX3) (N := 7) (ci := 2) C0 hH 17 rfl rfl inG3 1 (by decide) (nmm 163 (by decide +kernel) rfl) rfl rfl hdg kk
theorem gf_X6_148 (C0 : Ct p s m args c g RX6 cc nL) (hH : Hp g S s H locs) (hdg : decode cc pc = .ok (.getfield 148, 3)) (kk : W p l e R s m args below meth c H locs cells slots Q (F0 m (pc + 3) ls (.int (iI (S 17 0)) :: rest))) : W p l e R s m args below meth c H locs cells slots Q (F0 m pc ls (.ref (g.1 17) :: rest)) :=
  gnG (ref := RX3) (C := RX3) (host := "SkyLoom") (T := TX3) (N := 7) (ci := 2) C0 hH 17 rfl rfl inG3 0 (by decide) (nmm 161 (by decide +kernel) rfl) rfl rfl hdg kk
theorem gf_X6_170 (C0 : Ct p s m args c g RX6 cc nL) (hH : Hp g S s H locs) (hdg : decode cc pc = .ok (.getfield 170, 3)) (kk : W p l e R s m args below meth c H locs cells slots Q (F0 m (pc + 3) ls (.ref (g.1 10) :: rest))) : W p l e R s m args below meth c H locs cells slots Q (F0 m pc ls (.ref (g.1 8) :: rest)) :=
  gnG (ref := RX1) (C := RX1) (host := "SkyLoom") (T := TX1) (N := 3) (ci := 0) C0 hH 8 rfl rfl inG1 1 (by decide) (nmm 117 (by decide +kernel) rfl) rfl rfl hdg kk
theorem gf_X6_173 (C0 : Ct p s m args c g RX6 cc nL) (hH : Hp g S s H locs) (hdg : decode cc pc = .ok (.getfield 173, 3)) (kk : W p l e R s m args below meth c H locs cells slots Q (F0 m (pc + 3) ls (.ref (g.1 11) :: rest))) : W p l e R s m args below meth c H locs cells slots Q (F0 m pc ls (.ref (g.1 8) :: rest)) :=
  gnG (ref := RX1) (C := RX1) (host := "SkyLoom") (T := TX1) (N := 3) (ci := 0) C0 hH 8 rfl rfl inG1 2 (by decide) (nmm 119 (by decide +kernel) rfl) rfl rfl hdg kk
theorem gf_X6_205 (C0 : Ct p s m args c g RX6 cc nL) (hH : Hp g S s H locs) (hdg : decode cc pc = .ok (.getfield 205, 3)) (kk : W p l e R s m args below meth c H locs cells slots Q (F0 m (pc + 3) ls (.int (iI (S 12 0)) :: rest))) : W p l e R s m args below meth c H locs cells slots Q (F0 m pc ls (.ref (g.1 12) :: rest)) :=
  gnG (ref := RX4) (C := RX4) (host := "SkyLoom") (T := TX4) (N := 5) (ci := 3) C0 hH 12 rfl rfl inG4 0 (by decide) (nmm 134 (by decide +kernel) rfl) rfl rfl hdg kk
theorem gf_X6_235 (C0 : Ct p s m args c g RX6 cc nL) (hH : Hp g S s H locs) (hdg : decode cc pc = .ok (.getfield 235, 3)) (kk : W p l e R s m args below meth c H locs cells slots Q (F0 m (pc + 3) ls (.ref (g.1 19) :: rest))) : W p l e R s m args below meth c H locs cells slots Q (F0 m pc ls (.ref (g.1 17) :: rest)) :=
  gnG (ref := RX3) (C := RX3) (host := "SkyLoom") (T := TX3) (N := 7) (ci := 2) C0 hH 17 rfl rfl inG3 3 (by decide) (nmm 167 (by decide +kernel) rfl) rfl rfl hdg kk
theorem gf_X6_238 (C0 : Ct p s m args c g RX6 cc nL) (hH : Hp g S s H locs) (hdg : decode cc pc = .ok (.getfield 238, 3)) (kk : W p l e R s m args below meth c H locs cells slots Q (F0 m (pc + 3) ls (.ref (g.1 20) :: rest))) : W p l e R s m args below meth c H locs cells slots Q (F0 m pc ls (.ref (g.1 17) :: rest)) :=
  gnG (ref := RX3) (C := RX3) (host := "SkyLoom") (T := TX3) (N := 7) (ci := 2) C0 hH 17 rfl rfl inG3 4 (by decide) (nmm 169 (by decide +kernel) rfl) rfl rfl hdg kk
theorem gf_X6_241 (C0 : Ct p s m args c g RX6 cc nL) (hH : Hp g S s H locs) (hdg : decode cc pc = .ok (.getfield 241, 3)) (kk : W p l e R s m args below meth c H locs cells slots Q (F0 m (pc + 3) ls (.ref (g.1 21) :: rest))) : W p l e R s m args below meth c H locs cells slots Q (F0 m pc ls (.ref (g.1 17) :: rest)) :=
  gnG (ref := RX3) (C := RX3) (host := "SkyLoom") (T := TX3) (N := 7) (ci := 2) C0 hH 17 rfl rfl inG3 5 (by decide) (nmm 171 (by decide +kernel) rfl) rfl rfl hdg kk
theorem gf_X6_244 (C0 : Ct p s m args c g RX6 cc nL) (hH : Hp g S s H locs) (hdg : decode cc pc = .ok (.getfield 244, 3)) (kk : W p l e R s m args below meth c H locs cells slots Q (F0 m (pc + 3) ls (.ref (g.1 22) :: rest))) : W p l e R s m args below meth c H locs cells slots Q (F0 m pc ls (.ref (g.1 17) :: rest)) :=
  gnG (ref := RX3) (C := RX3) (host := "SkyLoom") (T := TX3) (N := 7) (ci := 2) C0 hH 17 rfl rfl inG3 6 (by decide) (nmm 173 (by decide +kernel) rfl) rfl rfl hdg kk
theorem gf_X6_247 (C0 : Ct p s m args c g RX6 cc nL) (hH : Hp g S s H locs) (hdg : decode cc pc = .ok (.getfield 247, 3)) (kk : W p l e R s m args below meth c H locs cells slots Q (F0 m (pc + 3) ls (.ref (g.1 18) :: rest))) : W p l e R s m args below meth c H locs cells slots Q (F0 m pc ls (.ref (g.1 17) :: rest)) :=
  gnG (ref := RX3) (C := RX3) (host := "SkyLoom") (T := TX3) (N := 7) (ci := 2) C0 hH 17 rfl rfl inG3 2 (by decide) (nmm 165 (by decide +kernel) rfl) rfl rfl hdg kk
theorem gf_X6_259 (C0 : Ct p s m args c g RX6 cc nL) (hH : Hp g S s H locs) (hdg : decode cc pc = .ok (.getfield 259, 3)) (kk : W p l e R s m args below meth c H locs cells slots Q (F0 m (pc + 3) ls (.ref (g.1 13) :: rest))) : W p l e R s m args below meth c H locs cells slots Q (F0 m pc ls (.ref (g.1 12) :: rest)) :=
  gnG (ref := RX4) (C := RX4) (host := "SkyLoom") (T := TX4) (N := 5) (ci := 3) C0 hH 12 rfl rfl inG4 1 (by decide) (nmm 136 (by decide +kernel) rfl) rfl rfl hdg kk
theorem gf_X6_262 (C0 : Ct p s m args c g RX6 cc nL) (hH : Hp g S s H locs) (hdg : decode cc pc = .ok (.getfield 262, 3)) (kk : W p l e R s m args below meth c H locs cells slots Q (F0 m (pc + 3) ls (.ref (g.1 14) :: rest))) : W p l e R s m args below meth c H locs cells slots Q (F0 m pc ls (.ref (g.1 12) :: rest)) :=
  gnG (ref := RX4) (C := RX4) (host := "SkyLoom") (T := TX4) (N := 5) (ci := 3) C0 hH 12 rfl rfl inG4 2 (by decide) (nmm 138 (by decide +kernel) rfl) rfl rfl hdg kk
theorem gf_X6_265 (C0 : Ct p s m args c g RX6 cc nL) (hH : Hp g S s H locs) (hdg : decode cc pc = .ok (.getfield 265, 3)) (kk : W p l e R s m args below meth c H locs cells slots Q (F0 m (pc + 3) ls (.ref (g.1 15) :: rest))) : W p l e R s m args below meth c H locs cells slots Q (F0 m pc ls (.ref (g.1 12) :: rest)) :=
  gnG (ref := RX4) (C := RX4) (host := "SkyLoom") (T := TX4) (N := 5) (ci := 3) C0 hH 12 rfl rfl inG4 3 (by decide) (nmm 140 (by decide +kernel) rfl) rfl rfl hdg kk
theorem gf_X6_268 (C0 : Ct p s m args c g RX6 cc nL) (hH : Hp g S s H locs) (hdg : decode cc pc = .ok (.getfield 268, 3)) (kk : W p l e R s m args below meth c H locs cells slots Q (F0 m (pc + 3) ls (.ref (g.1 16) :: rest))) : W p l e R s m args below meth c H locs cells slots Q (F0 m pc ls (.ref (g.1 12) :: rest)) :=
  gnG (ref := RX4) (C := RX4) (host := "SkyLoom") (T := TX4) (N := 5) (ci := 3) C0 hH 12 rfl rfl inG4 4 (by decide) (nmm 142 (by decide +kernel) rfl) rfl rfl hdg kk
theorem gf_X1_9 (C0 : Ct p s m args c g RX1 cc nL) (hH : Hp g S s H locs) (hdg : decode cc pc = .ok (.getfield 9, 3)) (kk : W p l e R s m args below meth c H locs cells slots Q (F0 m (pc + 3) ls (.ref (g.1 9) :: rest))) : W p l e R s m args below meth c H locs cells slots Q (F0 m pc ls (.ref (g.1 8) :: rest)) :=
  gfG (ref := RX1) (C := RX1) (T := TX1) (N := 3) (ci := 0) C0 hH 8 rfl rfl inG1 0 (by decide) (gm 115 (by decide +kernel) rfl) rfl rfl hdg kk
theorem gf_X1_15 (C0 : Ct p s m args c g RX1 cc nL) (hH : Hp g S s H locs) (hdg : decode cc pc = .ok (.getfield 15, 3)) (kk : W p l e R s m args below meth c H locs cells slots Q (F0 m (pc + 3) ls (.ref (g.1 10) :: rest))) : W p l e R s m args below meth c H locs cells slots Q (F0 m pc ls (.ref (g.1 8) :: rest)) :=
  gfG (ref := RX1) (C := RX1) (T := TX1) (N := 3) (ci := 0) C0 hH 8 rfl rfl inG1 1 (by decide) (gm 116 (by decide +kernel) rfl) rfl rfl hdg kk
theorem gf_X1_18 (C0 : Ct p s m args c g RX1 cc nL) (hH : Hp g S s H locs) (hdg : decode cc pc = .ok (.getfield 18, 3)) (kk : W p l e R s m args below meth c H locs cells slots Q (F0 m (pc + 3) ls (.ref (g.1 11) :: rest))) : W p l e R s m args below meth c H locs cells slots Q (F0 m pc ls (.ref (g.1 8) :: rest)) :=
  gfG (ref := RX1) (C := RX1) (T := TX1) (N := 3) (ci := 0) C0 hH 8 rfl rfl inG1 2 (by decide) (gm 118 (by decide +kernel) rfl) rfl rfl hdg kk
theorem gf_X2_9 (C0 : Ct p s m args c g RX2 cc nL) (hH : Hp g S s H locs) (hdg : decode cc pc = .ok (.getfield 9, 3)) (kk : W p l e R s m args below meth c H locs cells slots Q (F0 m (pc + 3) ls (.ref (g.1 2) :: rest))) : W p l e R s m args below meth c H locs cells slots Q (F0 m pc ls (.ref (g.1 1) :: rest)) :=
  gfG (ref := RX2) (C := RX2) (T := TX2) (N := 3) (ci := 1) C0 hH 1 rfl rfl inG2 1 (by decide) (gm 71 (by decide +kernel) rfl) rfl rfl hdg kk
theorem gf_X2_15 (C0 : Ct p s m args c g RX2 cc nL) (hH : Hp g S s H locs) (hdg : decode cc pc = .ok (.getfield 15, 3)) (kk : W p l e R s m args below meth c H locs cells slots Q (F0 m (pc + 3) ls (.ref (g.1 3) :: rest))) : W p l e R s m args below meth c H locs cells slots Q (F0 m pc ls (.ref (g.1 1) :: rest)) :=
  gfG (ref := RX2) (C := RX2) (T := TX2) (N := 3) (ci := 1) C0 hH 1 rfl rfl inG2 2 (by decide) (gm 73 (by decide +kernel) rfl) rfl rfl hdg kk
theorem gf_X2_18 (C0 : Ct p s m args c g RX2 cc nL) (hH : Hp g S s H locs) (hdg : decode cc pc = .ok (.getfield 18, 3)) (kk : W p l e R s m args below meth c H locs cells slots Q (F0 m (pc + 3) ls (.int (iI (S 1 0)) :: rest))) : W p l e R s m args below meth c H locs cells slots Q (F0 m pc ls (.ref (g.1 1) :: rest)) :=
  gfG (ref := RX2) (C := RX2) (T := TX2) (N := 3) (ci := 1) C0 hH 1 rfl rfl inG2 0 (by decide) (gm 69 (by decide +kernel) rfl) rfl rfl hdg kk
theorem pf_X2_18 {z : Int} (C0 : Ct p s m args c g RX2 cc nL) (hH : Hp g S s H locs) (hdg : decode cc pc = .ok (.putfield 18, 3)) (kk : ∀ (H1 : Heap) (locs1 : List Loc), Hp g (st S 1 0 z) s H1 locs1 → W p l e R s m args below meth c H1 locs1 cells slots Q (F0 m (pc + 3) ls (rest))) : W p l e R s m args below meth c H locs cells slots Q (F0 m pc ls (.int (iI z) :: .ref (g.1 1) :: rest)) :=
  pfG (ref := RX2) (C := RX2) (T := TX2) (N := 3) (ci := 1) C0 hH 1 rfl rfl inG2 tyX2 tyX2_ok nmX2 0 (by decide) (gm 69 (by decide +kernel) rfl) rfl rfl (by decide +kernel) (Nat.le_of_ble_eq_true rfl) rfl hdg kk
theorem gf_X3_9 (C0 : Ct p s m args c g RX3 cc nL) (hH : Hp g S s H locs) (hdg : decode cc pc = .ok (.getfield 9, 3)) (kk : W p l e R s m args below meth c H locs cells slots Q (F0 m (pc + 3) ls (.ref (g.1 18) :: rest))) : W p l e R s m args below meth c H locs cells slots Q (F0 m pc ls (.ref (g.1 17) :: rest)) :=
  gfG (ref := RX3) (C := RX3) (T := TX3) (N := 7) (ci := 2) C0 hH 17 rfl rfl inG3 2 (by decide) (gm 164 (by decide +kernel) rfl) rfl rfl hdg kk
theorem gf_X3_15 (C0 : Ct p s m args c g RX3 cc nL) (hH : Hp g S s H locs) (hdg : decode cc pc = .ok (.getfield 15, 3)) (kk : W p l e R s m args below meth c H locs cells slots Q (F0 m (pc + 3) ls (.ref (g.1 19) :: rest))) : W p l e R s m args below meth c H locs cells slots Q (F0 m pc ls (.ref (g.1 17) :: rest)) :=
  gfG (ref := RX3) (C := RX3) (T := TX3) (N := 7) (ci := 2) C0 hH 17 rfl rfl inG3 3 (by decide) (gm 166 (by decide +kernel) rfl) rfl rfl hdg kk
theorem gf_X3_18 (C0 : Ct p s m args c g RX3 cc nL) (hH : Hp g S s H locs) (hdg : decode cc pc = .ok (.getfield 18, 3)) (kk : W p l e R s m args below meth c H locs cells slots Q (F0 m (pc + 3) ls (.ref (g.1 20) :: rest))) : W p l e R s m args below meth c H locs cells slots Q (F0 m pc ls (.ref (g.1 17) :: rest)) :=
  gfG (ref := RX3) (C := RX3) (T := TX3) (N := 7) (ci := 2) C0 hH 17 rfl rfl inG3 4 (by decide) (gm 168 (by decide +kernel) rfl) rfl rfl hdg kk
theorem gf_X3_21 (C0 : Ct p s m args c g RX3 cc nL) (hH : Hp g S s H locs) (hdg : decode cc pc = .ok (.getfield 21, 3)) (kk : W p l e R s m args below meth c H locs cells slots Q (F0 m (pc + 3) ls (.ref (g.1 21) :: rest))) : W p l e R s m args below meth c H locs cells slots Q (F0 m pc ls (.ref (g.1 17) :: rest)) :=
  gfG (ref := RX3) (C := RX3) (T := TX3) (N := 7) (ci := 2) C0 hH 17 rfl rfl inG3 5 (by decide) (gm 170 (by decide +kernel) rfl) rfl rfl hdg kk
theorem gf_X3_24 (C0 : Ct p s m args c g RX3 cc nL) (hH : Hp g S s H locs) (hdg : decode cc pc = .ok (.getfield 24, 3)) (kk : W p l e R s m args below meth c H locs cells slots Q (F0 m (pc + 3) ls (.ref (g.1 22) :: rest))) : W p l e R s m args below meth c H locs cells slots Q (F0 m pc ls (.ref (g.1 17) :: rest)) :=
  gfG (ref := RX3) (C := RX3) (T := TX3) (N := 7) (ci := 2) C0 hH 17 rfl rfl inG3 6 (by decide) (gm 172 (by decide +kernel) rfl) rfl rfl hdg kk
theorem gf_X3_27 (C0 : Ct p s m args c g RX3 cc nL) (hH : Hp g S s H locs) (hdg : decode cc pc = .ok (.getfield 27, 3)) (kk : W p l e R s m args below meth c H locs cells slots Q (F0 m (pc + 3) ls (.int (iI (S 17 0)) :: rest))) : W p l e R s m args below meth c H locs cells slots Q (F0 m pc ls (.ref (g.1 17) :: rest)) :=
  gfG (ref := RX3) (C := RX3) (T := TX3) (N := 7) (ci := 2) C0 hH 17 rfl rfl inG3 0 (by decide) (gm 160 (by decide +kernel) rfl) rfl rfl hdg kk
theorem pf_X3_27 {z : Int} (C0 : Ct p s m args c g RX3 cc nL) (hH : Hp g S s H locs) (hdg : decode cc pc = .ok (.putfield 27, 3)) (kk : ∀ (H1 : Heap) (locs1 : List Loc), Hp g (st S 17 0 z) s H1 locs1 → W p l e R s m args below meth c H1 locs1 cells slots Q (F0 m (pc + 3) ls (rest))) : W p l e R s m args below meth c H locs cells slots Q (F0 m pc ls (.int (iI z) :: .ref (g.1 17) :: rest)) :=
  pfG (ref := RX3) (C := RX3) (T := TX3) (N := 7) (ci := 2) C0 hH 17 rfl rfl inG3 tyX3 tyX3_ok nmX3 0 (by decide) (gm 160 (by decide +kernel) rfl) rfl rfl (by decide +kernel) (Nat.le_of_ble_eq_true rfl) rfl hdg kk
theorem gf_X3_31 (C0 : Ct p s m args c g RX3 cc nL) (hH : Hp g S s H locs) (hdg : decode cc pc = .ok (.getfield 31, 3)) (kk : W p l e R s m args below meth c H locs cells slots Q (F0 m (pc + 3) ls (.int (iI (S 17 1)) :: rest))) : W p l e R s m args below meth c H locs cells slots Q (F0 m pc ls (.ref (g.1 17) :: rest)) :=
  gfG (ref := RX3) (C := RX3) (T := TX3) (N := 7) (ci := 2) C0 hH 17 rfl rfl inG3 1 (by decide) (gm 162 (by decide +kernel) rfl) rfl rfl hdg kk
theorem pf_X3_31 {z : Int} (C0 : Ct p s m args c g RX3 cc nL) (hH : Hp g S s H locs) (hdg : decode cc pc = .ok (.putfield 31, 3)) (kk : ∀ (H1 : Heap) (locs1 : List Loc), Hp g (st S 17 1 z) s H1 locs1 → W p l e R s m args below meth c H1 locs1 cells slots Q (F0 m (pc + 3) ls (rest))) : W p l e R s m args below meth c H locs cells slots Q (F0 m pc ls (.int (iI z) :: .ref (g.1 17) :: rest)) :=
  pfG (ref := RX3) (C := RX3) (T := TX3) (N := 7) (ci := 2) C0 hH 17 rfl rfl inG3 tyX3 tyX3_ok nmX3 1 (by decide) (gm 162 (by decide +kernel) rfl) rfl rfl (by decide +kernel) (Nat.le_of_ble_eq_true rfl) rfl hdg kk
theorem gf_X4_9 (C0 : Ct p s m args c g RX4 cc nL) (hH : Hp g S s H locs) (hdg : decode cc pc = .ok (.getfield 9, 3)) (kk : W p l e R s m args below meth c H locs cells slots Q (F0 m (pc + 3) ls (.ref (g.1 13) :: rest))) : W p l e R s m args below meth c H locs cells slots Q (F0 m pc ls (.ref (g.1 12) :: rest)) :=
  gfG (ref := RX4) (C := RX4) (T := TX4) (N := 5) (ci := 3) C0 hH 12 rfl rfl inG4 1 (by decide) (gm 135 (by decide +kernel) rfl) rfl rfl hdg kk
theorem gf_X4_15 (C0 : Ct p s m args c g RX4 cc nL) (hH : Hp g S s H locs) (hdg : decode cc pc = .ok (.getfield 15, 3)) (kk : W p l e R s m args below meth c H locs cells slots Q (F0 m (pc + 3) ls (.ref (g.1 14) :: rest))) : W p l e R s m args below meth c H locs cells slots Q (F0 m pc ls (.ref (g.1 12) :: rest)) :=
  gfG (ref := RX4) (C := RX4) (T := TX4) (N := 5) (ci := 3) C0 hH 12 rfl rfl inG4 2 (by decide) (gm 137 (by decide +kernel) rfl) rfl rfl hdg kk
theorem gf_X4_18 (C0 : Ct p s m args c g RX4 cc nL) (hH : Hp g S s H locs) (hdg : decode cc pc = .ok (.getfield 18, 3)) (kk : W p l e R s m args below meth c H locs cells slots Q (F0 m (pc + 3) ls (.ref (g.1 15) :: rest))) : W p l e R s m args below meth c H locs cells slots Q (F0 m pc ls (.ref (g.1 12) :: rest)) :=
  gfG (ref := RX4) (C := RX4) (T := TX4) (N := 5) (ci := 3) C0 hH 12 rfl rfl inG4 3 (by decide) (gm 139 (by decide +kernel) rfl) rfl rfl hdg kk
theorem gf_X4_21 (C0 : Ct p s m args c g RX4 cc nL) (hH : Hp g S s H locs) (hdg : decode cc pc = .ok (.getfield 21, 3)) (kk : W p l e R s m args below meth c H locs cells slots Q (F0 m (pc + 3) ls (.ref (g.1 16) :: rest))) : W p l e R s m args below meth c H locs cells slots Q (F0 m pc ls (.ref (g.1 12) :: rest)) :=
  gfG (ref := RX4) (C := RX4) (T := TX4) (N := 5) (ci := 3) C0 hH 12 rfl rfl inG4 4 (by decide) (gm 141 (by decide +kernel) rfl) rfl rfl hdg kk
theorem gf_X4_24 (C0 : Ct p s m args c g RX4 cc nL) (hH : Hp g S s H locs) (hdg : decode cc pc = .ok (.getfield 24, 3)) (kk : W p l e R s m args below meth c H locs cells slots Q (F0 m (pc + 3) ls (.int (iI (S 12 0)) :: rest))) : W p l e R s m args below meth c H locs cells slots Q (F0 m pc ls (.ref (g.1 12) :: rest)) :=
  gfG (ref := RX4) (C := RX4) (T := TX4) (N := 5) (ci := 3) C0 hH 12 rfl rfl inG4 0 (by decide) (gm 133 (by decide +kernel) rfl) rfl rfl hdg kk
theorem pf_X4_24 {z : Int} (C0 : Ct p s m args c g RX4 cc nL) (hH : Hp g S s H locs) (hdg : decode cc pc = .ok (.putfield 24, 3)) (kk : ∀ (H1 : Heap) (locs1 : List Loc), Hp g (st S 12 0 z) s H1 locs1 → W p l e R s m args below meth c H1 locs1 cells slots Q (F0 m (pc + 3) ls (rest))) : W p l e R s m args below meth c H locs cells slots Q (F0 m pc ls (.int (iI z) :: .ref (g.1 12) :: rest)) :=
  pfG (ref := RX4) (C := RX4) (T := TX4) (N := 5) (ci := 3) C0 hH 12 rfl rfl inG4 tyX4 tyX4_ok nmX4 0 (by decide) (gm 133 (by decide +kernel) rfl) rfl rfl (by decide +kernel) (Nat.le_of_ble_eq_true rfl) rfl hdg kk
theorem gf_X5_9 (C0 : Ct p s m args c g RX5 cc nL) (hH : Hp g S s H locs) (hdg : decode cc pc = .ok (.getfield 9, 3)) (kk : W p l e R s m args below meth c H locs cells slots Q (F0 m (pc + 3) ls (.ref (g.1 5) :: rest))) : W p l e R s m args below meth c H locs cells slots Q (F0 m pc ls (.ref (g.1 4) :: rest)) :=
  gfG (ref := RX5) (C := RX5) (T := TX5) (N := 4) (ci := 4) C0 hH 4 rfl rfl inG5 1 (by decide) (gm 91 (by decide +kernel) rfl) rfl rfl hdg kk
theorem gf_X5_15 (C0 : Ct p s m args c g RX5 cc nL) (hH : Hp g S s H locs) (hdg : decode cc pc = .ok (.getfield 15, 3)) (kk : W p l e R s m args below meth c H locs cells slots Q (F0 m (pc + 3) ls (.ref (g.1 6) :: rest))) : W p l e R s m args below meth c H locs cells slots Q (F0 m pc ls (.ref (g.1 4) :: rest)) :=
  gfG (ref := RX5) (C := RX5) (T := TX5) (N := 4) (ci := 4) C0 hH 4 rfl rfl inG5 2 (by decide) (gm 93 (by decide +kernel) rfl) rfl rfl hdg kk
theorem gf_X5_18 (C0 : Ct p s m args c g RX5 cc nL) (hH : Hp g S s H locs) (hdg : decode cc pc = .ok (.getfield 18, 3)) (kk : W p l e R s m args below meth c H locs cells slots Q (F0 m (pc + 3) ls (.ref (g.1 7) :: rest))) : W p l e R s m args below meth c H locs cells slots Q (F0 m pc ls (.ref (g.1 4) :: rest)) :=
  gfG (ref := RX5) (C := RX5) (T := TX5) (N := 4) (ci := 4) C0 hH 4 rfl rfl inG5 3 (by decide) (gm 95 (by decide +kernel) rfl) rfl rfl hdg kk
theorem gf_X5_21 (C0 : Ct p s m args c g RX5 cc nL) (hH : Hp g S s H locs) (hdg : decode cc pc = .ok (.getfield 21, 3)) (kk : W p l e R s m args below meth c H locs cells slots Q (F0 m (pc + 3) ls (.int (iI (S 4 0)) :: rest))) : W p l e R s m args below meth c H locs cells slots Q (F0 m pc ls (.ref (g.1 4) :: rest)) :=
  gfG (ref := RX5) (C := RX5) (T := TX5) (N := 4) (ci := 4) C0 hH 4 rfl rfl inG5 0 (by decide) (gm 89 (by decide +kernel) rfl) rfl rfl hdg kk
theorem pf_X5_21 {z : Int} (C0 : Ct p s m args c g RX5 cc nL) (hH : Hp g S s H locs) (hdg : decode cc pc = .ok (.putfield 21, 3)) (kk : ∀ (H1 : Heap) (locs1 : List Loc), Hp g (st S 4 0 z) s H1 locs1 → W p l e R s m args below meth c H1 locs1 cells slots Q (F0 m (pc + 3) ls (rest))) : W p l e R s m args below meth c H locs cells slots Q (F0 m pc ls (.int (iI z) :: .ref (g.1 4) :: rest)) :=
  pfG (ref := RX5) (C := RX5) (T := TX5) (N := 4) (ci := 4) C0 hH 4 rfl rfl inG5 tyX5 tyX5_ok nmX5 0 (by decide) (gm 89 (by decide +kernel) rfl) rfl rfl (by decide +kernel) (Nat.le_of_ble_eq_true rfl) rfl hdg kk
theorem gf_X7_7 (C0 : Ct p s m args c g RX7 cc nL) (hH : Hp g S s H locs) (hdg : decode cc pc = .ok (.getfield 7, 3)) (kk : W p l e R s m args below meth c H locs cells slots Q (F0 m (pc + 3) ls (.ref (g.1 24) :: rest))) : W p l e R s m args below meth c H locs cells slots Q (F0 m pc ls (.ref (g.1 23) :: rest)) :=
  gfG (ref := RX7) (C := RX7) (T := TX7) (N := 14) (ci := 6) C0 hH 23 rfl rfl inG7 1 (by decide) (gm 661 (by decide +kernel) rfl) rfl rfl hdg kk
theorem gf_X7_13 (C0 : Ct p s m args c g RX7 cc nL) (hH : Hp g S s H locs) (hdg : decode cc pc = .ok (.getfield 13, 3)) (kk : W p l e R s m args below meth c H locs cells slots Q (F0 m (pc + 3) ls (.ref (g.1 25) :: rest))) : W p l e R s m args below meth c H locs cells slots Q (F0 m pc ls (.ref (g.1 23) :: rest)) :=
  gfG (ref := RX7) (C := RX7) (T := TX7) (N := 14) (ci := 6) C0 hH 23 rfl rfl inG7 2 (by decide) (gm 662 (by decide +kernel) rfl) rfl rfl hdg kk
theorem gf_X7_16 (C0 : Ct p s m args c g RX7 cc nL) (hH : Hp g S s H locs) (hdg : decode cc pc = .ok (.getfield 16, 3)) (kk : W p l e R s m args below meth c H locs cells slots Q (F0 m (pc + 3) ls (.ref (g.1 26) :: rest))) : W p l e R s m args below meth c H locs cells slots Q (F0 m pc ls (.ref (g.1 23) :: rest)) :=
  gfG (ref := RX7) (C := RX7) (T := TX7) (N := 14) (ci := 6) C0 hH 23 rfl rfl inG7 4 (by decide) (gm 664 (by decide +kernel) rfl) rfl rfl hdg kk
theorem gf_X7_19 (C0 : Ct p s m args c g RX7 cc nL) (hH : Hp g S s H locs) (hdg : decode cc pc = .ok (.getfield 19, 3)) (kk : W p l e R s m args below meth c H locs cells slots Q (F0 m (pc + 3) ls (.ref (g.1 27) :: rest))) : W p l e R s m args below meth c H locs cells slots Q (F0 m pc ls (.ref (g.1 23) :: rest)) :=
  gfG (ref := RX7) (C := RX7) (T := TX7) (N := 14) (ci := 6) C0 hH 23 rfl rfl inG7 5 (by decide) (gm 665 (by decide +kernel) rfl) rfl rfl hdg kk
theorem gf_X7_22 (C0 : Ct p s m args c g RX7 cc nL) (hH : Hp g S s H locs) (hdg : decode cc pc = .ok (.getfield 22, 3)) (kk : W p l e R s m args below meth c H locs cells slots Q (F0 m (pc + 3) ls (.ref (g.1 28) :: rest))) : W p l e R s m args below meth c H locs cells slots Q (F0 m pc ls (.ref (g.1 23) :: rest)) :=
  gfG (ref := RX7) (C := RX7) (T := TX7) (N := 14) (ci := 6) C0 hH 23 rfl rfl inG7 6 (by decide) (gm 666 (by decide +kernel) rfl) rfl rfl hdg kk
theorem gf_X7_25 (C0 : Ct p s m args c g RX7 cc nL) (hH : Hp g S s H locs) (hdg : decode cc pc = .ok (.getfield 25, 3)) (kk : W p l e R s m args below meth c H locs cells slots Q (F0 m (pc + 3) ls (.ref (g.1 29) :: rest))) : W p l e R s m args below meth c H locs cells slots Q (F0 m pc ls (.ref (g.1 23) :: rest)) :=
  gfG (ref := RX7) (C := RX7) (T := TX7) (N := 14) (ci := 6) C0 hH 23 rfl rfl inG7 8 (by decide) (gm 668 (by decide +kernel) rfl) rfl rfl hdg kk
theorem gf_X7_28 (C0 : Ct p s m args c g RX7 cc nL) (hH : Hp g S s H locs) (hdg : decode cc pc = .ok (.getfield 28, 3)) (kk : W p l e R s m args below meth c H locs cells slots Q (F0 m (pc + 3) ls (.ref (g.1 30) :: rest))) : W p l e R s m args below meth c H locs cells slots Q (F0 m pc ls (.ref (g.1 23) :: rest)) :=
  gfG (ref := RX7) (C := RX7) (T := TX7) (N := 14) (ci := 6) C0 hH 23 rfl rfl inG7 9 (by decide) (gm 669 (by decide +kernel) rfl) rfl rfl hdg kk
theorem gf_X7_31 (C0 : Ct p s m args c g RX7 cc nL) (hH : Hp g S s H locs) (hdg : decode cc pc = .ok (.getfield 31, 3)) (kk : W p l e R s m args below meth c H locs cells slots Q (F0 m (pc + 3) ls (.ref (g.1 31) :: rest))) : W p l e R s m args below meth c H locs cells slots Q (F0 m pc ls (.ref (g.1 23) :: rest)) :=
  gfG (ref := RX7) (C := RX7) (T := TX7) (N := 14) (ci := 6) C0 hH 23 rfl rfl inG7 10 (by decide) (gm 670 (by decide +kernel) rfl) rfl rfl hdg kk
theorem gf_X7_34 (C0 : Ct p s m args c g RX7 cc nL) (hH : Hp g S s H locs) (hdg : decode cc pc = .ok (.getfield 34, 3)) (kk : W p l e R s m args below meth c H locs cells slots Q (F0 m (pc + 3) ls (.ref (g.1 32) :: rest))) : W p l e R s m args below meth c H locs cells slots Q (F0 m pc ls (.ref (g.1 23) :: rest)) :=
  gfG (ref := RX7) (C := RX7) (T := TX7) (N := 14) (ci := 6) C0 hH 23 rfl rfl inG7 12 (by decide) (gm 672 (by decide +kernel) rfl) rfl rfl hdg kk
theorem gf_X7_37 (C0 : Ct p s m args c g RX7 cc nL) (hH : Hp g S s H locs) (hdg : decode cc pc = .ok (.getfield 37, 3)) (kk : W p l e R s m args below meth c H locs cells slots Q (F0 m (pc + 3) ls (.int (iI (S 23 0)) :: rest))) : W p l e R s m args below meth c H locs cells slots Q (F0 m pc ls (.ref (g.1 23) :: rest)) :=
  gfG (ref := RX7) (C := RX7) (T := TX7) (N := 14) (ci := 6) C0 hH 23 rfl rfl inG7 0 (by decide) (gm 660 (by decide +kernel) rfl) rfl rfl hdg kk
theorem pf_X7_37 {z : Int} (C0 : Ct p s m args c g RX7 cc nL) (hH : Hp g S s H locs) (hdg : decode cc pc = .ok (.putfield 37, 3)) (kk : ∀ (H1 : Heap) (locs1 : List Loc), Hp g (st S 23 0 z) s H1 locs1 → W p l e R s m args below meth c H1 locs1 cells slots Q (F0 m (pc + 3) ls (rest))) : W p l e R s m args below meth c H locs cells slots Q (F0 m pc ls (.int (iI z) :: .ref (g.1 23) :: rest)) :=
  pfG (ref := RX7) (C := RX7) (T := TX7) (N := 14) (ci := 6) C0 hH 23 rfl rfl inG7 tyX7 tyX7_ok nmX7 0 (by decide) (gm 660 (by decide +kernel) rfl) rfl rfl (by decide +kernel) (Nat.le_of_ble_eq_true rfl) rfl hdg kk
theorem gf_X7_41 (C0 : Ct p s m args c g RX7 cc nL) (hH : Hp g S s H locs) (hdg : decode cc pc = .ok (.getfield 41, 3)) (kk : W p l e R s m args below meth c H locs cells slots Q (F0 m (pc + 3) ls (.int (iI (S 23 3)) :: rest))) : W p l e R s m args below meth c H locs cells slots Q (F0 m pc ls (.ref (g.1 23) :: rest)) :=
  gfG (ref := RX7) (C := RX7) (T := TX7) (N := 14) (ci := 6) C0 hH 23 rfl rfl inG7 3 (by decide) (gm 663 (by decide +kernel) rfl) rfl rfl hdg kk
theorem pf_X7_41 {z : Int} (C0 : Ct p s m args c g RX7 cc nL) (hH : Hp g S s H locs) (hdg : decode cc pc = .ok (.putfield 41, 3)) (kk : ∀ (H1 : Heap) (locs1 : List Loc), Hp g (st S 23 3 z) s H1 locs1 → W p l e R s m args below meth c H1 locs1 cells slots Q (F0 m (pc + 3) ls (rest))) : W p l e R s m args below meth c H locs cells slots Q (F0 m pc ls (.int (iI z) :: .ref (g.1 23) :: rest)) :=
  pfG (ref := RX7) (C := RX7) (T := TX7) (N := 14) (ci := 6) C0 hH 23 rfl rfl inG7 tyX7 tyX7_ok nmX7 3 (by decide) (gm 663 (by decide +kernel) rfl) rfl rfl (by decide +kernel) (Nat.le_of_ble_eq_true rfl) rfl hdg kk
theorem gf_X7_48 (C0 : Ct p s m args c g RX7 cc nL) (hH : Hp g S s H locs) (hdg : decode cc pc = .ok (.getfield 48, 3)) (kk : W p l e R s m args below meth c H locs cells slots Q (F0 m (pc + 3) ls (.int (iI (S 23 7)) :: rest))) : W p l e R s m args below meth c H locs cells slots Q (F0 m pc ls (.ref (g.1 23) :: rest)) :=
  gfG (ref := RX7) (C := RX7) (T := TX7) (N := 14) (ci := 6) C0 hH 23 rfl rfl inG7 7 (by decide) (gm 667 (by decide +kernel) rfl) rfl rfl hdg kk
theorem pf_X7_48 {z : Int} (C0 : Ct p s m args c g RX7 cc nL) (hH : Hp g S s H locs) (hdg : decode cc pc = .ok (.putfield 48, 3)) (kk : ∀ (H1 : Heap) (locs1 : List Loc), Hp g (st S 23 7 z) s H1 locs1 → W p l e R s m args below meth c H1 locs1 cells slots Q (F0 m (pc + 3) ls (rest))) : W p l e R s m args below meth c H locs cells slots Q (F0 m pc ls (.int (iI z) :: .ref (g.1 23) :: rest)) :=
  pfG (ref := RX7) (C := RX7) (T := TX7) (N := 14) (ci := 6) C0 hH 23 rfl rfl inG7 tyX7 tyX7_ok nmX7 7 (by decide) (gm 667 (by decide +kernel) rfl) rfl rfl (by decide +kernel) (Nat.le_of_ble_eq_true rfl) rfl hdg kk
theorem gf_X7_59 (C0 : Ct p s m args c g RX7 cc nL) (hH : Hp g S s H locs) (hdg : decode cc pc = .ok (.getfield 59, 3)) (kk : W p l e R s m args below meth c H locs cells slots Q (F0 m (pc + 3) ls (.int (iI (S 23 13)) :: rest))) : W p l e R s m args below meth c H locs cells slots Q (F0 m pc ls (.ref (g.1 23) :: rest)) :=
  gfG (ref := RX7) (C := RX7) (T := TX7) (N := 14) (ci := 6) C0 hH 23 rfl rfl inG7 13 (by decide) (gm 673 (by decide +kernel) rfl) rfl rfl hdg kk
theorem pf_X7_59 {z : Int} (C0 : Ct p s m args c g RX7 cc nL) (hH : Hp g S s H locs) (hdg : decode cc pc = .ok (.putfield 59, 3)) (kk : ∀ (H1 : Heap) (locs1 : List Loc), Hp g (st S 23 13 z) s H1 locs1 → W p l e R s m args below meth c H1 locs1 cells slots Q (F0 m (pc + 3) ls (rest))) : W p l e R s m args below meth c H locs cells slots Q (F0 m pc ls (.int (iI z) :: .ref (g.1 23) :: rest)) :=
  pfG (ref := RX7) (C := RX7) (T := TX7) (N := 14) (ci := 6) C0 hH 23 rfl rfl inG7 tyX7 tyX7_ok nmX7 13 (by decide) (gm 673 (by decide +kernel) rfl) rfl rfl (by decide +kernel) (Nat.le_of_ble_eq_true rfl) rfl hdg kk
theorem gf_X7_144 (C0 : Ct p s m args c g RX7 cc nL) (hH : Hp g S s H locs) (hdg : decode cc pc = .ok (.getfield 144, 3)) (kk : W p l e R s m args below meth c H locs cells slots Q (F0 m (pc + 3) ls (.int (iI (S 23 11)) :: rest))) : W p l e R s m args below meth c H locs cells slots Q (F0 m pc ls (.ref (g.1 23) :: rest)) :=
  gfG (ref := RX7) (C := RX7) (T := TX7) (N := 14) (ci := 6) C0 hH 23 rfl rfl inG7 11 (by decide) (gm 671 (by decide +kernel) rfl) rfl rfl hdg kk
theorem pf_X7_144 {z : Int} (C0 : Ct p s m args c g RX7 cc nL) (hH : Hp g S s H locs) (hdg : decode cc pc = .ok (.putfield 144, 3)) (kk : ∀ (H1 : Heap) (locs1 : List Loc), Hp g (st S 23 11 z) s H1 locs1 → W p l e R s m args below meth c H1 locs1 cells slots Q (F0 m (pc + 3) ls (rest))) : W p l e R s m args below meth c H locs cells slots Q (F0 m pc ls (.int (iI z) :: .ref (g.1 23) :: rest)) :=
  pfG (ref := RX7) (C := RX7) (T := TX7) (N := 14) (ci := 6) C0 hH 23 rfl rfl inG7 tyX7 tyX7_ok nmX7 11 (by decide) (gm 671 (by decide +kernel) rfl) rfl rfl (by decide +kernel) (Nat.le_of_ble_eq_true rfl) rfl hdg kk
theorem al_2 {own : String} {z : Int} (C0 : Ct p s m args c g own cc nL) (hH : Hp g S s H locs) (h0 : 0 ≤ z) (h1 : z < 24) (hdg : decode cc pc = .ok (.iaload, 1)) (kk : W p l e R s m args below meth c H locs cells slots Q (F0 m (pc + 1) ls (.int (iI (S 2 z)) :: rest))) : W p l e R s m args below meth c H locs cells slots Q (F0 m pc ls (.int (iI z) :: .ref (g.1 2) :: rest)) :=
  alG C0 hH 2 24 rfl (by decide) h0 h1 hdg kk
theorem as_2 {own : String} {z x : Int} (C0 : Ct p s m args c g own cc nL) (hH : Hp g S s H locs) (h0 : 0 ≤ z) (h1 : z < 24) (hdg : decode cc pc = .ok (.iastore, 1)) (kk : ∀ (H1 : Heap) (locs1 : List Loc), Hp g (st S 2 z x) s H1 locs1 → W p l e R s m args below meth c H1 locs1 cells slots Q (F0 m (pc + 1) ls (rest))) : W p l e R s m args below meth c H locs cells slots Q (F0 m pc ls (.int (iI x) :: .int (iI z) :: .ref (g.1 2) :: rest)) :=
  asG C0 hH 2 24 rfl (by decide) rfl h0 h1 hdg kk
theorem al_3 {own : String} {z : Int} (C0 : Ct p s m args c g own cc nL) (hH : Hp g S s H locs) (h0 : 0 ≤ z) (h1 : z < 24) (hdg : decode cc pc = .ok (.iaload, 1)) (kk : W p l e R s m args below meth c H locs cells slots Q (F0 m (pc + 1) ls (.int (iI (S 3 z)) :: rest))) : W p l e R s m args below meth c H locs cells slots Q (F0 m pc ls (.int (iI z) :: .ref (g.1 3) :: rest)) :=
  alG C0 hH 3 24 rfl (by decide) h0 h1 hdg kk
theorem as_3 {own : String} {z x : Int} (C0 : Ct p s m args c g own cc nL) (hH : Hp g S s H locs) (h0 : 0 ≤ z) (h1 : z < 24) (hdg : decode cc pc = .ok (.iastore, 1)) (kk : ∀ (H1 : Heap) (locs1 : List Loc), Hp g (st S 3 z x) s H1 locs1 → W p l e R s m args below meth c H1 locs1 cells slots Q (F0 m (pc + 1) ls (rest))) : W p l e R s m args below meth c H locs cells slots Q (F0 m pc ls (.int (iI x) :: .int (iI z) :: .ref (g.1 3) :: rest)) :=
  asG C0 hH 3 24 rfl (by decide) rfl h0 h1 hdg kk
theorem al_5 {own : String} {z : Int} (C0 : Ct p s m args c g own cc nL) (hH : Hp g S s H locs) (h0 : 0 ≤ z) (h1 : z < 8) (hdg : decode cc pc = .ok (.iaload, 1)) (kk : W p l e R s m args below meth c H locs cells slots Q (F0 m (pc + 1) ls (.int (iI (S 5 z)) :: rest))) : W p l e R s m args below meth c H locs cells slots Q (F0 m pc ls (.int (iI z) :: .ref (g.1 5) :: rest)) :=
  alG C0 hH 5 8 rfl (by decide) h0 h1 hdg kk
theorem as_5 {own : String} {z x : Int} (C0 : Ct p s m args c g own cc nL) (hH : Hp g S s H locs) (h0 : 0 ≤ z) (h1 : z < 8) (hdg : decode cc pc = .ok (.iastore, 1)) (kk : ∀ (H1 : Heap) (locs1 : List Loc), Hp g (st S 5 z x) s H1 locs1 → W p l e R s m args below meth c H1 locs1 cells slots Q (F0 m (pc + 1) ls (rest))) : W p l e R s m args below meth c H locs cells slots Q (F0 m pc ls (.int (iI x) :: .int (iI z) :: .ref (g.1 5) :: rest)) :=
  asG C0 hH 5 8 rfl (by decide) rfl h0 h1 hdg kk
theorem al_6 {own : String} {z : Int} (C0 : Ct p s m args c g own cc nL) (hH : Hp g S s H locs) (h0 : 0 ≤ z) (h1 : z < 80) (hdg : decode cc pc = .ok (.iaload, 1)) (kk : W p l e R s m args below meth c H locs cells slots Q (F0 m (pc + 1) ls (.int (iI (S 6 z)) :: rest))) : W p l e R s m args below meth c H locs cells slots Q (F0 m pc ls (.int (iI z) :: .ref (g.1 6) :: rest)) :=
  alG C0 hH 6 80 rfl (by decide) h0 h1 hdg kk
theorem as_6 {own : String} {z x : Int} (C0 : Ct p s m args c g own cc nL) (hH : Hp g S s H locs) (h0 : 0 ≤ z) (h1 : z < 80) (hdg : decode cc pc = .ok (.iastore, 1)) (kk : ∀ (H1 : Heap) (locs1 : List Loc), Hp g (st S 6 z x) s H1 locs1 → W p l e R s m args below meth c H1 locs1 cells slots Q (F0 m (pc + 1) ls (rest))) : W p l e R s m args below meth c H locs cells slots Q (F0 m pc ls (.int (iI x) :: .int (iI z) :: .ref (g.1 6) :: rest)) :=
  asG C0 hH 6 80 rfl (by decide) rfl h0 h1 hdg kk
theorem al_7 {own : String} {z : Int} (C0 : Ct p s m args c g own cc nL) (hH : Hp g S s H locs) (h0 : 0 ≤ z) (h1 : z < 80) (hdg : decode cc pc = .ok (.iaload, 1)) (kk : W p l e R s m args below meth c H locs cells slots Q (F0 m (pc + 1) ls (.int (iI (S 7 z)) :: rest))) : W p l e R s m args below meth c H locs cells slots Q (F0 m pc ls (.int (iI z) :: .ref (g.1 7) :: rest)) :=
  alG C0 hH 7 80 rfl (by decide) h0 h1 hdg kk
theorem as_7 {own : String} {z x : Int} (C0 : Ct p s m args c g own cc nL) (hH : Hp g S s H locs) (h0 : 0 ≤ z) (h1 : z < 80) (hdg : decode cc pc = .ok (.iastore, 1)) (kk : ∀ (H1 : Heap) (locs1 : List Loc), Hp g (st S 7 z x) s H1 locs1 → W p l e R s m args below meth c H1 locs1 cells slots Q (F0 m (pc + 1) ls (rest))) : W p l e R s m args below meth c H locs cells slots Q (F0 m pc ls (.int (iI x) :: .int (iI z) :: .ref (g.1 7) :: rest)) :=
  asG C0 hH 7 80 rfl (by decide) rfl h0 h1 hdg kk
theorem al_9 {own : String} {z : Int} (C0 : Ct p s m args c g own cc nL) (hH : Hp g S s H locs) (h0 : 0 ≤ z) (h1 : z < 48) (hdg : decode cc pc = .ok (.iaload, 1)) (kk : W p l e R s m args below meth c H locs cells slots Q (F0 m (pc + 1) ls (.int (iI (S 9 z)) :: rest))) : W p l e R s m args below meth c H locs cells slots Q (F0 m pc ls (.int (iI z) :: .ref (g.1 9) :: rest)) :=
  alG C0 hH 9 48 rfl (by decide) h0 h1 hdg kk
theorem as_9 {own : String} {z x : Int} (C0 : Ct p s m args c g own cc nL) (hH : Hp g S s H locs) (h0 : 0 ≤ z) (h1 : z < 48) (hdg : decode cc pc = .ok (.iastore, 1)) (kk : ∀ (H1 : Heap) (locs1 : List Loc), Hp g (st S 9 z x) s H1 locs1 → W p l e R s m args below meth c H1 locs1 cells slots Q (F0 m (pc + 1) ls (rest))) : W p l e R s m args below meth c H locs cells slots Q (F0 m pc ls (.int (iI x) :: .int (iI z) :: .ref (g.1 9) :: rest)) :=
  asG C0 hH 9 48 rfl (by decide) rfl h0 h1 hdg kk
theorem al_10 {own : String} {z : Int} (C0 : Ct p s m args c g own cc nL) (hH : Hp g S s H locs) (h0 : 0 ≤ z) (h1 : z < 80) (hdg : decode cc pc = .ok (.iaload, 1)) (kk : W p l e R s m args below meth c H locs cells slots Q (F0 m (pc + 1) ls (.int (iI (S 10 z)) :: rest))) : W p l e R s m args below meth c H locs cells slots Q (F0 m pc ls (.int (iI z) :: .ref (g.1 10) :: rest)) :=
  alG C0 hH 10 80 rfl (by decide) h0 h1 hdg kk
theorem as_10 {own : String} {z x : Int} (C0 : Ct p s m args c g own cc nL) (hH : Hp g S s H locs) (h0 : 0 ≤ z) (h1 : z < 80) (hdg : decode cc pc = .ok (.iastore, 1)) (kk : ∀ (H1 : Heap) (locs1 : List Loc), Hp g (st S 10 z x) s H1 locs1 → W p l e R s m args below meth c H1 locs1 cells slots Q (F0 m (pc + 1) ls (rest))) : W p l e R s m args below meth c H locs cells slots Q (F0 m pc ls (.int (iI x) :: .int (iI z) :: .ref (g.1 10) :: rest)) :=
  asG C0 hH 10 80 rfl (by decide) rfl h0 h1 hdg kk
theorem al_11 {own : String} {z : Int} (C0 : Ct p s m args c g own cc nL) (hH : Hp g S s H locs) (h0 : 0 ≤ z) (h1 : z < 8) (hdg : decode cc pc = .ok (.iaload, 1)) (kk : W p l e R s m args below meth c H locs cells slots Q (F0 m (pc + 1) ls (.int (iI (S 11 z)) :: rest))) : W p l e R s m args below meth c H locs cells slots Q (F0 m pc ls (.int (iI z) :: .ref (g.1 11) :: rest)) :=
  alG C0 hH 11 8 rfl (by decide) h0 h1 hdg kk
theorem as_11 {own : String} {z x : Int} (C0 : Ct p s m args c g own cc nL) (hH : Hp g S s H locs) (h0 : 0 ≤ z) (h1 : z < 8) (hdg : decode cc pc = .ok (.iastore, 1)) (kk : ∀ (H1 : Heap) (locs1 : List Loc), Hp g (st S 11 z x) s H1 locs1 → W p l e R s m args below meth c H1 locs1 cells slots Q (F0 m (pc + 1) ls (rest))) : W p l e R s m args below meth c H locs cells slots Q (F0 m pc ls (.int (iI x) :: .int (iI z) :: .ref (g.1 11) :: rest)) :=
  asG C0 hH 11 8 rfl (by decide) rfl h0 h1 hdg kk
theorem al_13 {own : String} {z : Int} (C0 : Ct p s m args c g own cc nL) (hH : Hp g S s H locs) (h0 : 0 ≤ z) (h1 : z < 12) (hdg : decode cc pc = .ok (.iaload, 1)) (kk : W p l e R s m args below meth c H locs cells slots Q (F0 m (pc + 1) ls (.int (iI (S 13 z)) :: rest))) : W p l e R s m args below meth c H locs cells slots Q (F0 m pc ls (.int (iI z) :: .ref (g.1 13) :: rest)) :=
  alG C0 hH 13 12 rfl (by decide) h0 h1 hdg kk
theorem as_13 {own : String} {z x : Int} (C0 : Ct p s m args c g own cc nL) (hH : Hp g S s H locs) (h0 : 0 ≤ z) (h1 : z < 12) (hdg : decode cc pc = .ok (.iastore, 1)) (kk : ∀ (H1 : Heap) (locs1 : List Loc), Hp g (st S 13 z x) s H1 locs1 → W p l e R s m args below meth c H1 locs1 cells slots Q (F0 m (pc + 1) ls (rest))) : W p l e R s m args below meth c H locs cells slots Q (F0 m pc ls (.int (iI x) :: .int (iI z) :: .ref (g.1 13) :: rest)) :=
  asG C0 hH 13 12 rfl (by decide) rfl h0 h1 hdg kk
theorem al_14 {own : String} {z : Int} (C0 : Ct p s m args c g own cc nL) (hH : Hp g S s H locs) (h0 : 0 ≤ z) (h1 : z < 12) (hdg : decode cc pc = .ok (.iaload, 1)) (kk : W p l e R s m args below meth c H locs cells slots Q (F0 m (pc + 1) ls (.int (iI (S 14 z)) :: rest))) : W p l e R s m args below meth c H locs cells slots Q (F0 m pc ls (.int (iI z) :: .ref (g.1 14) :: rest)) :=
  alG C0 hH 14 12 rfl (by decide) h0 h1 hdg kk
theorem as_14 {own : String} {z x : Int} (C0 : Ct p s m args c g own cc nL) (hH : Hp g S s H locs) (h0 : 0 ≤ z) (h1 : z < 12) (hdg : decode cc pc = .ok (.iastore, 1)) (kk : ∀ (H1 : Heap) (locs1 : List Loc), Hp g (st S 14 z x) s H1 locs1 → W p l e R s m args below meth c H1 locs1 cells slots Q (F0 m (pc + 1) ls (rest))) : W p l e R s m args below meth c H locs cells slots Q (F0 m pc ls (.int (iI x) :: .int (iI z) :: .ref (g.1 14) :: rest)) :=
  asG C0 hH 14 12 rfl (by decide) rfl h0 h1 hdg kk
theorem al_15 {own : String} {z : Int} (C0 : Ct p s m args c g own cc nL) (hH : Hp g S s H locs) (h0 : 0 ≤ z) (h1 : z < 12) (hdg : decode cc pc = .ok (.iaload, 1)) (kk : W p l e R s m args below meth c H locs cells slots Q (F0 m (pc + 1) ls (.int (iI (S 15 z)) :: rest))) : W p l e R s m args below meth c H locs cells slots Q (F0 m pc ls (.int (iI z) :: .ref (g.1 15) :: rest)) :=
  alG C0 hH 15 12 rfl (by decide) h0 h1 hdg kk
theorem as_15 {own : String} {z x : Int} (C0 : Ct p s m args c g own cc nL) (hH : Hp g S s H locs) (h0 : 0 ≤ z) (h1 : z < 12) (hdg : decode cc pc = .ok (.iastore, 1)) (kk : ∀ (H1 : Heap) (locs1 : List Loc), Hp g (st S 15 z x) s H1 locs1 → W p l e R s m args below meth c H1 locs1 cells slots Q (F0 m (pc + 1) ls (rest))) : W p l e R s m args below meth c H locs cells slots Q (F0 m pc ls (.int (iI x) :: .int (iI z) :: .ref (g.1 15) :: rest)) :=
  asG C0 hH 15 12 rfl (by decide) rfl h0 h1 hdg kk
theorem al_16 {own : String} {z : Int} (C0 : Ct p s m args c g own cc nL) (hH : Hp g S s H locs) (h0 : 0 ≤ z) (h1 : z < 12) (hdg : decode cc pc = .ok (.iaload, 1)) (kk : W p l e R s m args below meth c H locs cells slots Q (F0 m (pc + 1) ls (.int (iI (S 16 z)) :: rest))) : W p l e R s m args below meth c H locs cells slots Q (F0 m pc ls (.int (iI z) :: .ref (g.1 16) :: rest)) :=
  alG C0 hH 16 12 rfl (by decide) h0 h1 hdg kk
theorem as_16 {own : String} {z x : Int} (C0 : Ct p s m args c g own cc nL) (hH : Hp g S s H locs) (h0 : 0 ≤ z) (h1 : z < 12) (hdg : decode cc pc = .ok (.iastore, 1)) (kk : ∀ (H1 : Heap) (locs1 : List Loc), Hp g (st S 16 z x) s H1 locs1 → W p l e R s m args below meth c H1 locs1 cells slots Q (F0 m (pc + 1) ls (rest))) : W p l e R s m args below meth c H locs cells slots Q (F0 m pc ls (.int (iI x) :: .int (iI z) :: .ref (g.1 16) :: rest)) :=
  asG C0 hH 16 12 rfl (by decide) rfl h0 h1 hdg kk
theorem al_18 {own : String} {z : Int} (C0 : Ct p s m args c g own cc nL) (hH : Hp g S s H locs) (h0 : 0 ≤ z) (h1 : z < 30) (hdg : decode cc pc = .ok (.iaload, 1)) (kk : W p l e R s m args below meth c H locs cells slots Q (F0 m (pc + 1) ls (.int (iI (S 18 z)) :: rest))) : W p l e R s m args below meth c H locs cells slots Q (F0 m pc ls (.int (iI z) :: .ref (g.1 18) :: rest)) :=
  alG C0 hH 18 30 rfl (by decide) h0 h1 hdg kk
theorem as_18 {own : String} {z x : Int} (C0 : Ct p s m args c g own cc nL) (hH : Hp g S s H locs) (h0 : 0 ≤ z) (h1 : z < 30) (hdg : decode cc pc = .ok (.iastore, 1)) (kk : ∀ (H1 : Heap) (locs1 : List Loc), Hp g (st S 18 z x) s H1 locs1 → W p l e R s m args below meth c H1 locs1 cells slots Q (F0 m (pc + 1) ls (rest))) : W p l e R s m args below meth c H locs cells slots Q (F0 m pc ls (.int (iI x) :: .int (iI z) :: .ref (g.1 18) :: rest)) :=
  asG C0 hH 18 30 rfl (by decide) rfl h0 h1 hdg kk
theorem al_19 {own : String} {z : Int} (C0 : Ct p s m args c g own cc nL) (hH : Hp g S s H locs) (h0 : 0 ≤ z) (h1 : z < 30) (hdg : decode cc pc = .ok (.iaload, 1)) (kk : W p l e R s m args below meth c H locs cells slots Q (F0 m (pc + 1) ls (.int (iI (S 19 z)) :: rest))) : W p l e R s m args below meth c H locs cells slots Q (F0 m pc ls (.int (iI z) :: .ref (g.1 19) :: rest)) :=
  alG C0 hH 19 30 rfl (by decide) h0 h1 hdg kk
theorem as_19 {own : String} {z x : Int} (C0 : Ct p s m args c g own cc nL) (hH : Hp g S s H locs) (h0 : 0 ≤ z) (h1 : z < 30) (hdg : decode cc pc = .ok (.iastore, 1)) (kk : ∀ (H1 : Heap) (locs1 : List Loc), Hp g (st S 19 z x) s H1 locs1 → W p l e R s m args below meth c H1 locs1 cells slots Q (F0 m (pc + 1) ls (rest))) : W p l e R s m args below meth c H locs cells slots Q (F0 m pc ls (.int (iI x) :: .int (iI z) :: .ref (g.1 19) :: rest)) :=
  asG C0 hH 19 30 rfl (by decide) rfl h0 h1 hdg kk
theorem al_20 {own : String} {z : Int} (C0 : Ct p s m args c g own cc nL) (hH : Hp g S s H locs) (h0 : 0 ≤ z) (h1 : z < 30) (hdg : decode cc pc = .ok (.iaload, 1)) (kk : W p l e R s m args below meth c H locs cells slots Q (F0 m (pc + 1) ls (.int (iI (S 20 z)) :: rest))) : W p l e R s m args below meth c H locs cells slots Q (F0 m pc ls (.int (iI z) :: .ref (g.1 20) :: rest)) :=
  alG C0 hH 20 30 rfl (by decide) h0 h1 hdg kk
theorem as_20 {own : String} {z x : Int} (C0 : Ct p s m args c g own cc nL) (hH : Hp g S s H locs) (h0 : 0 ≤ z) (h1 : z < 30) (hdg : decode cc pc = .ok (.iastore, 1)) (kk : ∀ (H1 : Heap) (locs1 : List Loc), Hp g (st S 20 z x) s H1 locs1 → W p l e R s m args below meth c H1 locs1 cells slots Q (F0 m (pc + 1) ls (rest))) : W p l e R s m args below meth c H locs cells slots Q (F0 m pc ls (.int (iI x) :: .int (iI z) :: .ref (g.1 20) :: rest)) :=
  asG C0 hH 20 30 rfl (by decide) rfl h0 h1 hdg kk
theorem al_21 {own : String} {z : Int} (C0 : Ct p s m args c g own cc nL) (hH : Hp g S s H locs) (h0 : 0 ≤ z) (h1 : z < 30) (hdg : decode cc pc = .ok (.iaload, 1)) (kk : W p l e R s m args below meth c H locs cells slots Q (F0 m (pc + 1) ls (.int (iI (S 21 z)) :: rest))) : W p l e R s m args below meth c H locs cells slots Q (F0 m pc ls (.int (iI z) :: .ref (g.1 21) :: rest)) :=
  alG C0 hH 21 30 rfl (by decide) h0 h1 hdg kk
theorem as_21 {own : String} {z x : Int} (C0 : Ct p s m args c g own cc nL) (hH : Hp g S s H locs) (h0 : 0 ≤ z) (h1 : z < 30) (hdg : decode cc pc = .ok (.iastore, 1)) (kk : ∀ (H1 : Heap) (locs1 : List Loc), Hp g (st S 21 z x) s H1 locs1 → W p l e R s m args below meth c H1 locs1 cells slots Q (F0 m (pc + 1) ls (rest))) : W p l e R s m args below meth c H locs cells slots Q (F0 m pc ls (.int (iI x) :: .int (iI z) :: .ref (g.1 21) :: rest)) :=
  asG C0 hH 21 30 rfl (by decide) rfl h0 h1 hdg kk
theorem al_22 {own : String} {z : Int} (C0 : Ct p s m args c g own cc nL) (hH : Hp g S s H locs) (h0 : 0 ≤ z) (h1 : z < 30) (hdg : decode cc pc = .ok (.iaload, 1)) (kk : W p l e R s m args below meth c H locs cells slots Q (F0 m (pc + 1) ls (.int (iI (S 22 z)) :: rest))) : W p l e R s m args below meth c H locs cells slots Q (F0 m pc ls (.int (iI z) :: .ref (g.1 22) :: rest)) :=
  alG C0 hH 22 30 rfl (by decide) h0 h1 hdg kk
theorem as_22 {own : String} {z x : Int} (C0 : Ct p s m args c g own cc nL) (hH : Hp g S s H locs) (h0 : 0 ≤ z) (h1 : z < 30) (hdg : decode cc pc = .ok (.iastore, 1)) (kk : ∀ (H1 : Heap) (locs1 : List Loc), Hp g (st S 22 z x) s H1 locs1 → W p l e R s m args below meth c H1 locs1 cells slots Q (F0 m (pc + 1) ls (rest))) : W p l e R s m args below meth c H locs cells slots Q (F0 m pc ls (.int (iI x) :: .int (iI z) :: .ref (g.1 22) :: rest)) :=
  asG C0 hH 22 30 rfl (by decide) rfl h0 h1 hdg kk
theorem al_24 {own : String} {z : Int} (C0 : Ct p s m args c g own cc nL) (hH : Hp g S s H locs) (h0 : 0 ≤ z) (h1 : z < 24) (hdg : decode cc pc = .ok (.iaload, 1)) (kk : W p l e R s m args below meth c H locs cells slots Q (F0 m (pc + 1) ls (.int (iI (S 24 z)) :: rest))) : W p l e R s m args below meth c H locs cells slots Q (F0 m pc ls (.int (iI z) :: .ref (g.1 24) :: rest)) :=
  alG C0 hH 24 24 rfl (by decide) h0 h1 hdg kk
theorem as_24 {own : String} {z x : Int} (C0 : Ct p s m args c g own cc nL) (hH : Hp g S s H locs) (h0 : 0 ≤ z) (h1 : z < 24) (hdg : decode cc pc = .ok (.iastore, 1)) (kk : ∀ (H1 : Heap) (locs1 : List Loc), Hp g (st S 24 z x) s H1 locs1 → W p l e R s m args below meth c H1 locs1 cells slots Q (F0 m (pc + 1) ls (rest))) : W p l e R s m args below meth c H locs cells slots Q (F0 m pc ls (.int (iI x) :: .int (iI z) :: .ref (g.1 24) :: rest)) :=
  asG C0 hH 24 24 rfl (by decide) rfl h0 h1 hdg kk
theorem al_25 {own : String} {z : Int} (C0 : Ct p s m args c g own cc nL) (hH : Hp g S s H locs) (h0 : 0 ≤ z) (h1 : z < 24) (hdg : decode cc pc = .ok (.iaload, 1)) (kk : W p l e R s m args below meth c H locs cells slots Q (F0 m (pc + 1) ls (.int (iI (S 25 z)) :: rest))) : W p l e R s m args below meth c H locs cells slots Q (F0 m pc ls (.int (iI z) :: .ref (g.1 25) :: rest)) :=
  alG C0 hH 25 24 rfl (by decide) h0 h1 hdg kk
theorem as_25 {own : String} {z x : Int} (C0 : Ct p s m args c g own cc nL) (hH : Hp g S s H locs) (h0 : 0 ≤ z) (h1 : z < 24) (hdg : decode cc pc = .ok (.iastore, 1)) (kk : ∀ (H1 : Heap) (locs1 : List Loc), Hp g (st S 25 z x) s H1 locs1 → W p l e R s m args below meth c H1 locs1 cells slots Q (F0 m (pc + 1) ls (rest))) : W p l e R s m args below meth c H locs cells slots Q (F0 m pc ls (.int (iI x) :: .int (iI z) :: .ref (g.1 25) :: rest)) :=
  asG C0 hH 25 24 rfl (by decide) rfl h0 h1 hdg kk
theorem al_26 {own : String} {z : Int} (C0 : Ct p s m args c g own cc nL) (hH : Hp g S s H locs) (h0 : 0 ≤ z) (h1 : z < 80) (hdg : decode cc pc = .ok (.iaload, 1)) (kk : W p l e R s m args below meth c H locs cells slots Q (F0 m (pc + 1) ls (.int (iI (S 26 z)) :: rest))) : W p l e R s m args below meth c H locs cells slots Q (F0 m pc ls (.int (iI z) :: .ref (g.1 26) :: rest)) :=
  alG C0 hH 26 80 rfl (by decide) h0 h1 hdg kk
theorem as_26 {own : String} {z x : Int} (C0 : Ct p s m args c g own cc nL) (hH : Hp g S s H locs) (h0 : 0 ≤ z) (h1 : z < 80) (hdg : decode cc pc = .ok (.iastore, 1)) (kk : ∀ (H1 : Heap) (locs1 : List Loc), Hp g (st S 26 z x) s H1 locs1 → W p l e R s m args below meth c H1 locs1 cells slots Q (F0 m (pc + 1) ls (rest))) : W p l e R s m args below meth c H locs cells slots Q (F0 m pc ls (.int (iI x) :: .int (iI z) :: .ref (g.1 26) :: rest)) :=
  asG C0 hH 26 80 rfl (by decide) rfl h0 h1 hdg kk
theorem al_27 {own : String} {z : Int} (C0 : Ct p s m args c g own cc nL) (hH : Hp g S s H locs) (h0 : 0 ≤ z) (h1 : z < 80) (hdg : decode cc pc = .ok (.iaload, 1)) (kk : W p l e R s m args below meth c H locs cells slots Q (F0 m (pc + 1) ls (.int (iI (S 27 z)) :: rest))) : W p l e R s m args below meth c H locs cells slots Q (F0 m pc ls (.int (iI z) :: .ref (g.1 27) :: rest)) :=
  alG C0 hH 27 80 rfl (by decide) h0 h1 hdg kk
theorem as_27 {own : String} {z x : Int} (C0 : Ct p s m args c g own cc nL) (hH : Hp g S s H locs) (h0 : 0 ≤ z) (h1 : z < 80) (hdg : decode cc pc = .ok (.iastore, 1)) (kk : ∀ (H1 : Heap) (locs1 : List Loc), Hp g (st S 27 z x) s H1 locs1 → W p l e R s m args below meth c H1 locs1 cells slots Q (F0 m (pc + 1) ls (rest))) : W p l e R s m args below meth c H locs cells slots Q (F0 m pc ls (.int (iI x) :: .int (iI z) :: .ref (g.1 27) :: rest)) :=
  asG C0 hH 27 80 rfl (by decide) rfl h0 h1 hdg kk
theorem al_28 {own : String} {z : Int} (C0 : Ct p s m args c g own cc nL) (hH : Hp g S s H locs) (h0 : 0 ≤ z) (h1 : z < 8) (hdg : decode cc pc = .ok (.iaload, 1)) (kk : W p l e R s m args below meth c H locs cells slots Q (F0 m (pc + 1) ls (.int (iI (S 28 z)) :: rest))) : W p l e R s m args below meth c H locs cells slots Q (F0 m pc ls (.int (iI z) :: .ref (g.1 28) :: rest)) :=
  alG C0 hH 28 8 rfl (by decide) h0 h1 hdg kk
theorem as_28 {own : String} {z x : Int} (C0 : Ct p s m args c g own cc nL) (hH : Hp g S s H locs) (h0 : 0 ≤ z) (h1 : z < 8) (hdg : decode cc pc = .ok (.iastore, 1)) (kk : ∀ (H1 : Heap) (locs1 : List Loc), Hp g (st S 28 z x) s H1 locs1 → W p l e R s m args below meth c H1 locs1 cells slots Q (F0 m (pc + 1) ls (rest))) : W p l e R s m args below meth c H locs cells slots Q (F0 m pc ls (.int (iI x) :: .int (iI z) :: .ref (g.1 28) :: rest)) :=
  asG C0 hH 28 8 rfl (by decide) rfl h0 h1 hdg kk
theorem al_29 {own : String} {z : Int} (C0 : Ct p s m args c g own cc nL) (hH : Hp g S s H locs) (h0 : 0 ≤ z) (h1 : z < 48) (hdg : decode cc pc = .ok (.iaload, 1)) (kk : W p l e R s m args below meth c H locs cells slots Q (F0 m (pc + 1) ls (.int (iI (S 29 z)) :: rest))) : W p l e R s m args below meth c H locs cells slots Q (F0 m pc ls (.int (iI z) :: .ref (g.1 29) :: rest)) :=
  alG C0 hH 29 48 rfl (by decide) h0 h1 hdg kk
theorem as_29 {own : String} {z x : Int} (C0 : Ct p s m args c g own cc nL) (hH : Hp g S s H locs) (h0 : 0 ≤ z) (h1 : z < 48) (hdg : decode cc pc = .ok (.iastore, 1)) (kk : ∀ (H1 : Heap) (locs1 : List Loc), Hp g (st S 29 z x) s H1 locs1 → W p l e R s m args below meth c H1 locs1 cells slots Q (F0 m (pc + 1) ls (rest))) : W p l e R s m args below meth c H locs cells slots Q (F0 m pc ls (.int (iI x) :: .int (iI z) :: .ref (g.1 29) :: rest)) :=
  asG C0 hH 29 48 rfl (by decide) rfl h0 h1 hdg kk
theorem al_30 {own : String} {z : Int} (C0 : Ct p s m args c g own cc nL) (hH : Hp g S s H locs) (h0 : 0 ≤ z) (h1 : z < 8) (hdg : decode cc pc = .ok (.iaload, 1)) (kk : W p l e R s m args below meth c H locs cells slots Q (F0 m (pc + 1) ls (.int (iI (S 30 z)) :: rest))) : W p l e R s m args below meth c H locs cells slots Q (F0 m pc ls (.int (iI z) :: .ref (g.1 30) :: rest)) :=
  alG C0 hH 30 8 rfl (by decide) h0 h1 hdg kk
theorem as_30 {own : String} {z x : Int} (C0 : Ct p s m args c g own cc nL) (hH : Hp g S s H locs) (h0 : 0 ≤ z) (h1 : z < 8) (hdg : decode cc pc = .ok (.iastore, 1)) (kk : ∀ (H1 : Heap) (locs1 : List Loc), Hp g (st S 30 z x) s H1 locs1 → W p l e R s m args below meth c H1 locs1 cells slots Q (F0 m (pc + 1) ls (rest))) : W p l e R s m args below meth c H locs cells slots Q (F0 m pc ls (.int (iI x) :: .int (iI z) :: .ref (g.1 30) :: rest)) :=
  asG C0 hH 30 8 rfl (by decide) rfl h0 h1 hdg kk
theorem al_31 {own : String} {z : Int} (C0 : Ct p s m args c g own cc nL) (hH : Hp g S s H locs) (h0 : 0 ≤ z) (h1 : z < 60) (hdg : decode cc pc = .ok (.iaload, 1)) (kk : W p l e R s m args below meth c H locs cells slots Q (F0 m (pc + 1) ls (.int (iI (S 31 z)) :: rest))) : W p l e R s m args below meth c H locs cells slots Q (F0 m pc ls (.int (iI z) :: .ref (g.1 31) :: rest)) :=
  alG C0 hH 31 60 rfl (by decide) h0 h1 hdg kk
theorem as_31 {own : String} {z x : Int} (C0 : Ct p s m args c g own cc nL) (hH : Hp g S s H locs) (h0 : 0 ≤ z) (h1 : z < 60) (hdg : decode cc pc = .ok (.iastore, 1)) (kk : ∀ (H1 : Heap) (locs1 : List Loc), Hp g (st S 31 z x) s H1 locs1 → W p l e R s m args below meth c H1 locs1 cells slots Q (F0 m (pc + 1) ls (rest))) : W p l e R s m args below meth c H locs cells slots Q (F0 m pc ls (.int (iI x) :: .int (iI z) :: .ref (g.1 31) :: rest)) :=
  asG C0 hH 31 60 rfl (by decide) rfl h0 h1 hdg kk
theorem al_32 {own : String} {z : Int} (C0 : Ct p s m args c g own cc nL) (hH : Hp g S s H locs) (h0 : 0 ≤ z) (h1 : z < 150) (hdg : decode cc pc = .ok (.iaload, 1)) (kk : W p l e R s m args below meth c H locs cells slots Q (F0 m (pc + 1) ls (.int (iI (S 32 z)) :: rest))) : W p l e R s m args below meth c H locs cells slots Q (F0 m pc ls (.int (iI z) :: .ref (g.1 32) :: rest)) :=
  alG C0 hH 32 150 rfl (by decide) h0 h1 hdg kk
theorem as_32 {own : String} {z x : Int} (C0 : Ct p s m args c g own cc nL) (hH : Hp g S s H locs) (h0 : 0 ≤ z) (h1 : z < 150) (hdg : decode cc pc = .ok (.iastore, 1)) (kk : ∀ (H1 : Heap) (locs1 : List Loc), Hp g (st S 32 z x) s H1 locs1 → W p l e R s m args below meth c H1 locs1 cells slots Q (F0 m (pc + 1) ls (rest))) : W p l e R s m args below meth c H locs cells slots Q (F0 m pc ls (.int (iI x) :: .int (iI z) :: .ref (g.1 32) :: rest)) :=
  asG C0 hH 32 150 rfl (by decide) rfl h0 h1 hdg kk
end ST
theorem kw_X6_44 : kwS RX6 44 yX6_needPlace cX6_needPlace 2 none := ⟨gm 262 (by decide +kernel) rfl, gm 263 (by decide +kernel) rfl, gm 264 (by decide +kernel) rfl, gm 38 (by decide +kernel) rfl⟩
theorem kw_X6_59 : kwV RX6 59 yX2_append cX2_append 4 (some .int) := ⟨gm 350 (by decide +kernel) rfl, gm 351 (by decide +kernel) rfl, gm 352 (by decide +kernel) rfl, gm 353 (by decide +kernel) rfl, gm 39 (by decide +kernel) rfl⟩
theorem kw_X6_63 : kwV RX6 63 yX6_needStar cX6_needStar 2 none := ⟨gm 366 (by decide +kernel) rfl, gm 368 (by decide +kernel) rfl, gm 4 (by decide +kernel) rfl, gm 369 (by decide +kernel) rfl, gm 38 (by decide +kernel) rfl⟩
theorem kw_X6_74 : kwV RX6 74 yX3_keep cX3_keep 6 none := ⟨gm 386 (by decide +kernel) rfl, gm 387 (by decide +kernel) rfl, gm 388 (by decide +kernel) rfl, gm 389 (by decide +kernel) rfl, gm 44 (by decide +kernel) rfl⟩
theorem kw_X6_78 : kwV RX6 78 yX2_move cX2_move 4 none := ⟨gm 391 (by decide +kernel) rfl, gm 355 (by decide +kernel) rfl, gm 356 (by decide +kernel) rfl, gm 357 (by decide +kernel) rfl, gm 39 (by decide +kernel) rfl⟩
theorem kw_X6_82 : kwV RX6 82 yX6_countWrongShows cX6_countWrongShows 3 (some .int) := ⟨gm 217 (by decide +kernel) rfl, gm 219 (by decide +kernel) rfl, gm 0 (by decide +kernel) rfl, gm 220 (by decide +kernel) rfl, gm 38 (by decide +kernel) rfl⟩
theorem kw_X6_91 : kwV RX6 91 yX5_appendFigure cX5_appendFigure 2 (some .int) := ⟨gm 400 (by decide +kernel) rfl, gm 401 (by decide +kernel) rfl, gm 402 (by decide +kernel) rfl, gm 403 (by decide +kernel) rfl, gm 40 (by decide +kernel) rfl⟩
theorem kw_X6_94 : kwV RX6 94 yX6_needFigure cX6_needFigure 2 none := ⟨gm 411 (by decide +kernel) rfl, gm 413 (by decide +kernel) rfl, gm 5 (by decide +kernel) rfl, gm 414 (by decide +kernel) rfl, gm 38 (by decide +kernel) rfl⟩
theorem kw_X6_107 : kwV RX6 107 yX5_joins cX5_joins 8 (some .boolean) := ⟨gm 418 (by decide +kernel) rfl, gm 419 (by decide +kernel) rfl, gm 420 (by decide +kernel) rfl, gm 421 (by decide +kernel) rfl, gm 40 (by decide +kernel) rfl⟩
theorem kw_X6_113 : kwV RX6 113 yX5_isOfAnother cX5_isOfAnother 4 (some .boolean) := ⟨gm 424 (by decide +kernel) rfl, gm 425 (by decide +kernel) rfl, gm 426 (by decide +kernel) rfl, gm 427 (by decide +kernel) rfl, gm 40 (by decide +kernel) rfl⟩
theorem kw_X6_119 : kwV RX6 119 yX5_insert cX5_insert 7 none := ⟨gm 437 (by decide +kernel) rfl, gm 438 (by decide +kernel) rfl, gm 439 (by decide +kernel) rfl, gm 440 (by decide +kernel) rfl, gm 40 (by decide +kernel) rfl⟩
theorem kw_X6_128 : kwS RX6 128 yX5_place cX5_place 2 (some .int) := ⟨gm 229 (by decide +kernel) rfl, gm 230 (by decide +kernel) rfl, gm 231 (by decide +kernel) rfl, gm 40 (by decide +kernel) rfl⟩
theorem kw_X6_137 : kwV RX6 137 yX5_remove cX5_remove 5 none := ⟨gm 449 (by decide +kernel) rfl, gm 450 (by decide +kernel) rfl, gm 451 (by decide +kernel) rfl, gm 452 (by decide +kernel) rfl, gm 40 (by decide +kernel) rfl⟩
theorem kw_X6_145 : kwV RX6 145 yX3_stepBack cX3_stepBack 1 none := ⟨gm 461 (by decide +kernel) rfl, gm 462 (by decide +kernel) rfl, gm 463 (by decide +kernel) rfl, gm 464 (by decide +kernel) rfl, gm 44 (by decide +kernel) rfl⟩
theorem kw_X6_151 : kwV RX6 151 yX6_takeBack cX6_takeBack 6 none := ⟨gm 465 (by decide +kernel) rfl, gm 467 (by decide +kernel) rfl, gm 7 (by decide +kernel) rfl, gm 468 (by decide +kernel) rfl, gm 38 (by decide +kernel) rfl⟩
theorem kw_X6_154 : kwV RX6 154 yX5_ownerOf cX5_ownerOf 3 (some .int) := ⟨gm 490 (by decide +kernel) rfl, gm 429 (by decide +kernel) rfl, gm 430 (by decide +kernel) rfl, gm 431 (by decide +kernel) rfl, gm 40 (by decide +kernel) rfl⟩
theorem kw_X6_158 : kwV RX6 158 yX6_linesCross cX6_linesCross 8 (some .boolean) := ⟨gm 498 (by decide +kernel) rfl, gm 500 (by decide +kernel) rfl, gm 8 (by decide +kernel) rfl, gm 501 (by decide +kernel) rfl, gm 38 (by decide +kernel) rfl⟩
theorem kw_X6_163 : kwS RX6 163 yX6_needName cX6_needName 1 none := ⟨gm 532 (by decide +kernel) rfl, gm 533 (by decide +kernel) rfl, gm 534 (by decide +kernel) rfl, gm 38 (by decide +kernel) rfl⟩
theorem kw_X6_166 : kwV RX6 166 yX1_replace cX1_replace 6 (some .int) := ⟨gm 536 (by decide +kernel) rfl, gm 537 (by decide +kernel) rfl, gm 538 (by decide +kernel) rfl, gm 539 (by decide +kernel) rfl, gm 41 (by decide +kernel) rfl⟩
theorem kw_X6_176 : kwS RX6 176 yX6_needLatitude cX6_needLatitude 1 none := ⟨gm 573 (by decide +kernel) rfl, gm 574 (by decide +kernel) rfl, gm 575 (by decide +kernel) rfl, gm 38 (by decide +kernel) rfl⟩
theorem kw_X6_179 : kwS RX6 179 yX6_needDay cX6_needDay 1 none := ⟨gm 577 (by decide +kernel) rfl, gm 578 (by decide +kernel) rfl, gm 579 (by decide +kernel) rfl, gm 38 (by decide +kernel) rfl⟩
theorem kw_X6_182 : kwS RX6 182 yX6_needHour cX6_needHour 1 none := ⟨gm 581 (by decide +kernel) rfl, gm 582 (by decide +kernel) rfl, gm 583 (by decide +kernel) rfl, gm 38 (by decide +kernel) rfl⟩
theorem kw_X6_185 : kwS RX6 185 yX6_skyTurn cX6_skyTurn 2 (some .int) := ⟨gm 585 (by decide +kernel) rfl, gm 586 (by decide +kernel) rfl, gm 587 (by decide +kernel) rfl, gm 38 (by decide +kernel) rfl⟩
theorem kw_X6_188 : kwV RX6 188 yX2_heightAt cX2_heightAt 7 (some .int) := ⟨gm 232 (by decide +kernel) rfl, gm 233 (by decide +kernel) rfl, gm 234 (by decide +kernel) rfl, gm 235 (by decide +kernel) rfl, gm 39 (by decide +kernel) rfl⟩
theorem kw_X6_191 : kwV RX6 191 yX6_figureIsUp cX6_figureIsUp 4 (some .boolean) := ⟨gm 595 (by decide +kernel) rfl, gm 597 (by decide +kernel) rfl, gm 14 (by decide +kernel) rfl, gm 598 (by decide +kernel) rfl, gm 38 (by decide +kernel) rfl⟩
theorem kw_X6_195 : kwV RX6 195 yX6_hoursOfStar cX6_hoursOfStar 6 (some .int) := ⟨gm 614 (by decide +kernel) rfl, gm 616 (by decide +kernel) rfl, gm 15 (by decide +kernel) rfl, gm 617 (by decide +kernel) rfl, gm 38 (by decide +kernel) rfl⟩
theorem kw_X6_198 : kwV RX6 198 yX6_lowestHeight cX6_lowestHeight 8 (some .int) := ⟨gm 225 (by decide +kernel) rfl, gm 227 (by decide +kernel) rfl, gm 2 (by decide +kernel) rfl, gm 228 (by decide +kernel) rfl, gm 38 (by decide +kernel) rfl⟩
theorem kw_X6_210 : kwV RX6 210 yX4_append cX4_append 6 (some .int) := ⟨gm 642 (by decide +kernel) rfl, gm 643 (by decide +kernel) rfl, gm 644 (by decide +kernel) rfl, gm 645 (by decide +kernel) rfl, gm 43 (by decide +kernel) rfl⟩
theorem kw_X6_215 : kwV RX6 215 yX6_showIsWrong cX6_showIsWrong 3 (some .boolean) := ⟨gm 221 (by decide +kernel) rfl, gm 223 (by decide +kernel) rfl, gm 1 (by decide +kernel) rfl, gm 224 (by decide +kernel) rfl, gm 38 (by decide +kernel) rfl⟩
theorem kw_X6_250 : kwV RX6 250 yX2_meet cX2_meet 5 (some .boolean) := ⟨gm 502 (by decide +kernel) rfl, gm 503 (by decide +kernel) rfl, gm 504 (by decide +kernel) rfl, gm 505 (by decide +kernel) rfl, gm 39 (by decide +kernel) rfl⟩
theorem kw_X6_254 : kwS RX6 254 yJ9_min_7cf53 cJ9_min_7cf53 2 (some .int) := ⟨gm 250 (by decide +kernel) rfl, gm 251 (by decide +kernel) rfl, gm 252 (by decide +kernel) rfl, gm 52 (by decide +kernel) rfl⟩
theorem kw_X0_9 : kwS RX0 9 yJ9_floorMod_7cf53 cJ9_floorMod_7cf53 3 (some .int) := ⟨gm 239 (by decide +kernel) rfl, gm 240 (by decide +kernel) rfl, gm 241 (by decide +kernel) rfl, gm 52 (by decide +kernel) rfl⟩
theorem kw_X0_18 : kwS RX0 18 yX0_sine cX0_sine 6 (some .int) := ⟨gm 246 (by decide +kernel) rfl, gm 237 (by decide +kernel) rfl, gm 238 (by decide +kernel) rfl, gm 53 (by decide +kernel) rfl⟩
theorem kw_X1_21 : kwS RX1 21 yJ7_fill_53178 cJ7_fill_53178 4 none := ⟨gm 112 (by decide +kernel) rfl, gm 113 (by decide +kernel) rfl, gm 114 (by decide +kernel) rfl, gm 42 (by decide +kernel) rfl⟩
theorem kw_X1_27 : kwV RX1 27 yX1_count cX1_count 4 none := ⟨gm 540 (by decide +kernel) rfl, gm 542 (by decide +kernel) rfl, gm 11 (by decide +kernel) rfl, gm 543 (by decide +kernel) rfl, gm 41 (by decide +kernel) rfl⟩
theorem kw_X1_31 : kwV RX1 31 yX1_giveNames cX1_giveNames 4 none := ⟨gm 544 (by decide +kernel) rfl, gm 546 (by decide +kernel) rfl, gm 12 (by decide +kernel) rfl, gm 547 (by decide +kernel) rfl, gm 41 (by decide +kernel) rfl⟩
theorem kw_X1_34 : kwV RX1 34 yX1_giveName cX1_giveName 6 (some .int) := ⟨gm 548 (by decide +kernel) rfl, gm 550 (by decide +kernel) rfl, gm 13 (by decide +kernel) rfl, gm 551 (by decide +kernel) rfl, gm 41 (by decide +kernel) rfl⟩
theorem kw_X2_22 : kwV RX2 22 yX2_move cX2_move 4 none := ⟨gm 354 (by decide +kernel) rfl, gm 355 (by decide +kernel) rfl, gm 356 (by decide +kernel) rfl, gm 357 (by decide +kernel) rfl, gm 39 (by decide +kernel) rfl⟩
theorem kw_X2_26 : kwS RX2 26 yX0_sine cX0_sine 6 (some .int) := ⟨gm 236 (by decide +kernel) rfl, gm 237 (by decide +kernel) rfl, gm 238 (by decide +kernel) rfl, gm 53 (by decide +kernel) rfl⟩
theorem kw_X2_32 : kwS RX2 32 yX0_cosine cX0_cosine 1 (some .int) := ⟨gm 243 (by decide +kernel) rfl, gm 244 (by decide +kernel) rfl, gm 245 (by decide +kernel) rfl, gm 53 (by decide +kernel) rfl⟩
theorem kw_X2_35 : kwS RX2 35 yJ9_floorDiv_7cf53 cJ9_floorDiv_7cf53 3 (some .int) := ⟨gm 247 (by decide +kernel) rfl, gm 248 (by decide +kernel) rfl, gm 249 (by decide +kernel) rfl, gm 52 (by decide +kernel) rfl⟩
theorem kw_X2_41 : kwS RX2 41 yX2_spansOverlap cX2_spansOverlap 4 (some .boolean) := ⟨gm 506 (by decide +kernel) rfl, gm 507 (by decide +kernel) rfl, gm 508 (by decide +kernel) rfl, gm 39 (by decide +kernel) rfl⟩
theorem kw_X2_45 : kwV RX2 45 yX2_straddles cX2_straddles 5 (some .boolean) := ⟨gm 513 (by decide +kernel) rfl, gm 515 (by decide +kernel) rfl, gm 9 (by decide +kernel) rfl, gm 516 (by decide +kernel) rfl, gm 39 (by decide +kernel) rfl⟩
theorem kw_X2_48 : kwS RX2 48 yJ9_max_7cf53 cJ9_max_7cf53 2 (some .int) := ⟨gm 509 (by decide +kernel) rfl, gm 510 (by decide +kernel) rfl, gm 511 (by decide +kernel) rfl, gm 52 (by decide +kernel) rfl⟩
theorem kw_X2_51 : kwS RX2 51 yJ9_min_7cf53 cJ9_min_7cf53 2 (some .int) := ⟨gm 512 (by decide +kernel) rfl, gm 251 (by decide +kernel) rfl, gm 252 (by decide +kernel) rfl, gm 52 (by decide +kernel) rfl⟩
theorem kw_X2_54 : kwV RX2 54 yX2_sideOf cX2_sideOf 4 (some .int) := ⟨gm 517 (by decide +kernel) rfl, gm 519 (by decide +kernel) rfl, gm 10 (by decide +kernel) rfl, gm 520 (by decide +kernel) rfl, gm 39 (by decide +kernel) rfl⟩
theorem kw_X2_58 : kwS RX2 58 yJ6_compare_7cf53 cJ6_compare_7cf53 2 (some .int) := ⟨gm 521 (by decide +kernel) rfl, gm 522 (by decide +kernel) rfl, gm 523 (by decide +kernel) rfl, gm 54 (by decide +kernel) rfl⟩
theorem kw_X3_34 : kwS RX3 34 yJ9_min_7cf53 cJ9_min_7cf53 2 (some .int) := ⟨gm 390 (by decide +kernel) rfl, gm 251 (by decide +kernel) rfl, gm 252 (by decide +kernel) rfl, gm 52 (by decide +kernel) rfl⟩
theorem kw_X5_25 : kwS RX5 25 yX5_place cX5_place 2 (some .int) := ⟨gm 422 (by decide +kernel) rfl, gm 230 (by decide +kernel) rfl, gm 231 (by decide +kernel) rfl, gm 40 (by decide +kernel) rfl⟩
theorem kw_X5_29 : kwV RX5 29 yX5_hasStar cX5_hasStar 5 (some .boolean) := ⟨gm 432 (by decide +kernel) rfl, gm 434 (by decide +kernel) rfl, gm 6 (by decide +kernel) rfl, gm 435 (by decide +kernel) rfl, gm 40 (by decide +kernel) rfl⟩
theorem kw_X5_33 : kwV RX5 33 yX5_ownerOf cX5_ownerOf 3 (some .int) := ⟨gm 428 (by decide +kernel) rfl, gm 429 (by decide +kernel) rfl, gm 430 (by decide +kernel) rfl, gm 431 (by decide +kernel) rfl, gm 40 (by decide +kernel) rfl⟩
theorem kw_L_7 : kwV RL 7 yX6_addStar cX6_addStar 3 (some .int) := ⟨gm 258 (by decide +kernel) rfl, gm 259 (by decide +kernel) rfl, gm 260 (by decide +kernel) rfl, gm 261 (by decide +kernel) rfl, gm 38 (by decide +kernel) rfl⟩
theorem kw_L_17 : kwV RL 17 yX6_correct cX6_correct 4 (some .int) := ⟨gm 362 (by decide +kernel) rfl, gm 363 (by decide +kernel) rfl, gm 364 (by decide +kernel) rfl, gm 365 (by decide +kernel) rfl, gm 38 (by decide +kernel) rfl⟩
theorem kw_L_23 : kwV RL 23 yX6_addFigure cX6_addFigure 1 (some .int) := ⟨gm 395 (by decide +kernel) rfl, gm 396 (by decide +kernel) rfl, gm 397 (by decide +kernel) rfl, gm 398 (by decide +kernel) rfl, gm 38 (by decide +kernel) rfl⟩
theorem kw_L_27 : kwV RL 27 yX6_draw cX6_draw 5 (some .int) := ⟨gm 407 (by decide +kernel) rfl, gm 408 (by decide +kernel) rfl, gm 409 (by decide +kernel) rfl, gm 410 (by decide +kernel) rfl, gm 38 (by decide +kernel) rfl⟩
theorem kw_L_30 : kwV RL 30 yX6_erase cX6_erase 4 (some .int) := ⟨gm 444 (by decide +kernel) rfl, gm 445 (by decide +kernel) rfl, gm 446 (by decide +kernel) rfl, gm 447 (by decide +kernel) rfl, gm 38 (by decide +kernel) rfl⟩
theorem kw_L_33 : kwV RL 33 yX6_undo cX6_undo 1 (some .int) := ⟨gm 456 (by decide +kernel) rfl, gm 457 (by decide +kernel) rfl, gm 458 (by decide +kernel) rfl, gm 459 (by decide +kernel) rfl, gm 38 (by decide +kernel) rfl⟩
theorem kw_L_36 : kwV RL 36 yX6_lines cX6_lines 2 (some .int) := ⟨gm 472 (by decide +kernel) rfl, gm 473 (by decide +kernel) rfl, gm 474 (by decide +kernel) rfl, gm 475 (by decide +kernel) rfl, gm 38 (by decide +kernel) rfl⟩
theorem kw_L_40 : kwV RL 40 yX6_placeOf cX6_placeOf 2 (some .int) := ⟨gm 479 (by decide +kernel) rfl, gm 480 (by decide +kernel) rfl, gm 481 (by decide +kernel) rfl, gm 482 (by decide +kernel) rfl, gm 38 (by decide +kernel) rfl⟩
theorem kw_L_43 : kwV RL 43 yX6_figureOf cX6_figureOf 2 (some .int) := ⟨gm 486 (by decide +kernel) rfl, gm 487 (by decide +kernel) rfl, gm 488 (by decide +kernel) rfl, gm 489 (by decide +kernel) rfl, gm 38 (by decide +kernel) rfl⟩
theorem kw_L_46 : kwV RL 46 yX6_crossings cX6_crossings 7 (some .int) := ⟨gm 494 (by decide +kernel) rfl, gm 495 (by decide +kernel) rfl, gm 496 (by decide +kernel) rfl, gm 497 (by decide +kernel) rfl, gm 38 (by decide +kernel) rfl⟩
theorem kw_L_49 : kwV RL 49 yX6_vote cX6_vote 4 (some .int) := ⟨gm 527 (by decide +kernel) rfl, gm 528 (by decide +kernel) rfl, gm 529 (by decide +kernel) rfl, gm 530 (by decide +kernel) rfl, gm 38 (by decide +kernel) rfl⟩
theorem kw_L_52 : kwV RL 52 yX6_votes cX6_votes 3 (some .int) := ⟨gm 555 (by decide +kernel) rfl, gm 556 (by decide +kernel) rfl, gm 557 (by decide +kernel) rfl, gm 558 (by decide +kernel) rfl, gm 38 (by decide +kernel) rfl⟩
theorem kw_L_55 : kwV RL 55 yX6_nameOf cX6_nameOf 2 (some .int) := ⟨gm 562 (by decide +kernel) rfl, gm 563 (by decide +kernel) rfl, gm 564 (by decide +kernel) rfl, gm 565 (by decide +kernel) rfl, gm 38 (by decide +kernel) rfl⟩
theorem kw_L_58 : kwV RL 58 yX6_height cX6_height 5 (some .int) := ⟨gm 569 (by decide +kernel) rfl, gm 570 (by decide +kernel) rfl, gm 571 (by decide +kernel) rfl, gm 572 (by decide +kernel) rfl, gm 38 (by decide +kernel) rfl⟩
theorem kw_L_62 : kwV RL 62 yX6_isUp cX6_isUp 5 (some .boolean) := ⟨gm 591 (by decide +kernel) rfl, gm 592 (by decide +kernel) rfl, gm 593 (by decide +kernel) rfl, gm 594 (by decide +kernel) rfl, gm 38 (by decide +kernel) rfl⟩
theorem kw_L_66 : kwV RL 66 yX6_hours cX6_hours 6 (some .int) := ⟨gm 602 (by decide +kernel) rfl, gm 603 (by decide +kernel) rfl, gm 604 (by decide +kernel) rfl, gm 605 (by decide +kernel) rfl, gm 38 (by decide +kernel) rfl⟩
theorem kw_L_69 : kwV RL 69 yX6_hoursByStars cX6_hoursByStars 8 (some .int) := ⟨gm 609 (by decide +kernel) rfl, gm 610 (by decide +kernel) rfl, gm 611 (by decide +kernel) rfl, gm 612 (by decide +kernel) rfl, gm 38 (by decide +kernel) rfl⟩
theorem kw_L_72 : kwV RL 72 yX6_bestHour cX6_bestHour 8 (some .int) := ⟨gm 621 (by decide +kernel) rfl, gm 622 (by decide +kernel) rfl, gm 623 (by decide +kernel) rfl, gm 624 (by decide +kernel) rfl, gm 38 (by decide +kernel) rfl⟩
theorem kw_L_75 : kwV RL 75 yX6_season cX6_season 6 (some .int) := ⟨gm 628 (by decide +kernel) rfl, gm 629 (by decide +kernel) rfl, gm 630 (by decide +kernel) rfl, gm 631 (by decide +kernel) rfl, gm 38 (by decide +kernel) rfl⟩
theorem kw_L_78 : kwV RL 78 yX6_plan cX6_plan 7 (some .int) := ⟨gm 635 (by decide +kernel) rfl, gm 636 (by decide +kernel) rfl, gm 637 (by decide +kernel) rfl, gm 638 (by decide +kernel) rfl, gm 38 (by decide +kernel) rfl⟩
theorem kw_L_81 : kwV RL 81 yX6_isWrong cX6_isWrong 2 (some .boolean) := ⟨gm 649 (by decide +kernel) rfl, gm 650 (by decide +kernel) rfl, gm 651 (by decide +kernel) rfl, gm 652 (by decide +kernel) rfl, gm 38 (by decide +kernel) rfl⟩
theorem kw_L_94 : kwV RL 94 yX7_addStar cX7_addStar 3 (some .int) := ⟨gm 707 (by decide +kernel) rfl, gm 708 (by decide +kernel) rfl, gm 709 (by decide +kernel) rfl, gm 710 (by decide +kernel) rfl, gm 45 (by decide +kernel) rfl⟩
theorem kw_L_95 : kwV RL 95 yX7_thrown cX7_thrown 1 (some .int) := ⟨gm 703 (by decide +kernel) rfl, gm 704 (by decide +kernel) rfl, gm 705 (by decide +kernel) rfl, gm 706 (by decide +kernel) rfl, gm 45 (by decide +kernel) rfl⟩
theorem kw_L_101 : kwV RL 101 yX7_correct cX7_correct 4 (some .int) := ⟨gm 721 (by decide +kernel) rfl, gm 722 (by decide +kernel) rfl, gm 723 (by decide +kernel) rfl, gm 724 (by decide +kernel) rfl, gm 45 (by decide +kernel) rfl⟩
theorem kw_L_105 : kwV RL 105 yX7_addFigure cX7_addFigure 1 (some .int) := ⟨gm 775 (by decide +kernel) rfl, gm 776 (by decide +kernel) rfl, gm 777 (by decide +kernel) rfl, gm 778 (by decide +kernel) rfl, gm 45 (by decide +kernel) rfl⟩
theorem kw_L_108 : kwV RL 108 yX7_draw cX7_draw 6 (some .int) := ⟨gm 779 (by decide +kernel) rfl, gm 780 (by decide +kernel) rfl, gm 781 (by decide +kernel) rfl, gm 782 (by decide +kernel) rfl, gm 45 (by decide +kernel) rfl⟩
theorem kw_L_111 : kwV RL 111 yX7_erase cX7_erase 4 (some .int) := ⟨gm 807 (by decide +kernel) rfl, gm 808 (by decide +kernel) rfl, gm 809 (by decide +kernel) rfl, gm 810 (by decide +kernel) rfl, gm 45 (by decide +kernel) rfl⟩
theorem kw_L_114 : kwV RL 114 yX7_undo cX7_undo 3 (some .int) := ⟨gm 815 (by decide +kernel) rfl, gm 816 (by decide +kernel) rfl, gm 817 (by decide +kernel) rfl, gm 818 (by decide +kernel) rfl, gm 45 (by decide +kernel) rfl⟩
theorem kw_L_115 : kwV RL 115 yX6_stars cX6_stars 1 (some .int) := ⟨gm 205 (by decide +kernel) rfl, gm 206 (by decide +kernel) rfl, gm 207 (by decide +kernel) rfl, gm 208 (by decide +kernel) rfl, gm 38 (by decide +kernel) rfl⟩
theorem kw_L_118 : kwV RL 118 yX7_stars cX7_stars 1 (some .int) := ⟨gm 819 (by decide +kernel) rfl, gm 820 (by decide +kernel) rfl, gm 821 (by decide +kernel) rfl, gm 822 (by decide +kernel) rfl, gm 45 (by decide +kernel) rfl⟩
theorem kw_L_119 : kwV RL 119 yX6_figures cX6_figures 1 (some .int) := ⟨gm 209 (by decide +kernel) rfl, gm 210 (by decide +kernel) rfl, gm 211 (by decide +kernel) rfl, gm 212 (by decide +kernel) rfl, gm 38 (by decide +kernel) rfl⟩
theorem kw_L_122 : kwV RL 122 yX7_figures cX7_figures 1 (some .int) := ⟨gm 823 (by decide +kernel) rfl, gm 824 (by decide +kernel) rfl, gm 825 (by decide +kernel) rfl, gm 826 (by decide +kernel) rfl, gm 45 (by decide +kernel) rfl⟩
theorem kw_L_126 : kwV RL 126 yX7_lines cX7_lines 2 (some .int) := ⟨gm 827 (by decide +kernel) rfl, gm 828 (by decide +kernel) rfl, gm 829 (by decide +kernel) rfl, gm 830 (by decide +kernel) rfl, gm 45 (by decide +kernel) rfl⟩
theorem kw_L_129 : kwV RL 129 yX7_placeOf cX7_placeOf 2 (some .int) := ⟨gm 831 (by decide +kernel) rfl, gm 832 (by decide +kernel) rfl, gm 833 (by decide +kernel) rfl, gm 834 (by decide +kernel) rfl, gm 45 (by decide +kernel) rfl⟩
theorem kw_L_132 : kwV RL 132 yX7_figureOf cX7_figureOf 2 (some .int) := ⟨gm 835 (by decide +kernel) rfl, gm 836 (by decide +kernel) rfl, gm 837 (by decide +kernel) rfl, gm 838 (by decide +kernel) rfl, gm 45 (by decide +kernel) rfl⟩
theorem kw_L_135 : kwV RL 135 yX7_crossings cX7_crossings 6 (some .int) := ⟨gm 839 (by decide +kernel) rfl, gm 840 (by decide +kernel) rfl, gm 841 (by decide +kernel) rfl, gm 842 (by decide +kernel) rfl, gm 45 (by decide +kernel) rfl⟩
theorem kw_L_138 : kwV RL 138 yX7_vote cX7_vote 6 (some .int) := ⟨gm 854 (by decide +kernel) rfl, gm 855 (by decide +kernel) rfl, gm 856 (by decide +kernel) rfl, gm 857 (by decide +kernel) rfl, gm 45 (by decide +kernel) rfl⟩
theorem kw_L_141 : kwV RL 141 yX7_votes cX7_votes 3 (some .int) := ⟨gm 858 (by decide +kernel) rfl, gm 859 (by decide +kernel) rfl, gm 860 (by decide +kernel) rfl, gm 861 (by decide +kernel) rfl, gm 45 (by decide +kernel) rfl⟩
theorem kw_L_144 : kwV RL 144 yX7_nameOf cX7_nameOf 2 (some .int) := ⟨gm 862 (by decide +kernel) rfl, gm 863 (by decide +kernel) rfl, gm 864 (by decide +kernel) rfl, gm 865 (by decide +kernel) rfl, gm 45 (by decide +kernel) rfl⟩
theorem kw_L_148 : kwV RL 148 yX7_height cX7_height 5 (some .int) := ⟨gm 866 (by decide +kernel) rfl, gm 867 (by decide +kernel) rfl, gm 868 (by decide +kernel) rfl, gm 869 (by decide +kernel) rfl, gm 45 (by decide +kernel) rfl⟩
theorem kw_L_151 : kwV RL 151 yX7_isUp cX7_isUp 5 (some .boolean) := ⟨gm 873 (by decide +kernel) rfl, gm 874 (by decide +kernel) rfl, gm 875 (by decide +kernel) rfl, gm 876 (by decide +kernel) rfl, gm 45 (by decide +kernel) rfl⟩
theorem kw_L_154 : kwV RL 154 yX7_hours cX7_hours 4 (some .int) := ⟨gm 877 (by decide +kernel) rfl, gm 878 (by decide +kernel) rfl, gm 879 (by decide +kernel) rfl, gm 880 (by decide +kernel) rfl, gm 45 (by decide +kernel) rfl⟩
theorem kw_L_157 : kwV RL 157 yX7_hoursByStars cX7_hoursByStars 4 (some .int) := ⟨gm 885 (by decide +kernel) rfl, gm 886 (by decide +kernel) rfl, gm 887 (by decide +kernel) rfl, gm 888 (by decide +kernel) rfl, gm 45 (by decide +kernel) rfl⟩
theorem kw_L_160 : kwV RL 160 yX7_bestHour cX7_bestHour 8 (some .int) := ⟨gm 889 (by decide +kernel) rfl, gm 890 (by decide +kernel) rfl, gm 891 (by decide +kernel) rfl, gm 892 (by decide +kernel) rfl, gm 45 (by decide +kernel) rfl⟩
theorem kw_L_163 : kwV RL 163 yX7_season cX7_season 6 (some .int) := ⟨gm 893 (by decide +kernel) rfl, gm 894 (by decide +kernel) rfl, gm 895 (by decide +kernel) rfl, gm 896 (by decide +kernel) rfl, gm 45 (by decide +kernel) rfl⟩
theorem kw_L_166 : kwV RL 166 yX7_plan cX7_plan 8 (some .int) := ⟨gm 897 (by decide +kernel) rfl, gm 898 (by decide +kernel) rfl, gm 899 (by decide +kernel) rfl, gm 900 (by decide +kernel) rfl, gm 45 (by decide +kernel) rfl⟩
theorem kw_L_169 : kwV RL 169 yX7_isWrong cX7_isWrong 2 (some .boolean) := ⟨gm 901 (by decide +kernel) rfl, gm 902 (by decide +kernel) rfl, gm 903 (by decide +kernel) rfl, gm 904 (by decide +kernel) rfl, gm 45 (by decide +kernel) rfl⟩
theorem kw_L_170 : kwV RL 170 yX6_wrong cX6_wrong 1 (some .int) := ⟨gm 213 (by decide +kernel) rfl, gm 214 (by decide +kernel) rfl, gm 215 (by decide +kernel) rfl, gm 216 (by decide +kernel) rfl, gm 38 (by decide +kernel) rfl⟩
theorem kw_L_173 : kwV RL 173 yX7_wrong cX7_wrong 1 (some .int) := ⟨gm 905 (by decide +kernel) rfl, gm 906 (by decide +kernel) rfl, gm 907 (by decide +kernel) rfl, gm 908 (by decide +kernel) rfl, gm 45 (by decide +kernel) rfl⟩
theorem kw_X7_44 : kwS RX7 44 yX7_isIn cX7_isIn 3 (some .boolean) := ⟨gm 714 (by decide +kernel) rfl, gm 715 (by decide +kernel) rfl, gm 716 (by decide +kernel) rfl, gm 45 (by decide +kernel) rfl⟩
theorem kw_X7_51 : kwS RX7 51 yX7_isPlace cX7_isPlace 2 (some .boolean) := ⟨gm 711 (by decide +kernel) rfl, gm 712 (by decide +kernel) rfl, gm 713 (by decide +kernel) rfl, gm 45 (by decide +kernel) rfl⟩
theorem kw_X7_55 : kwV RX7 55 yX7_isFine cX7_isFine 2 (some .boolean) := ⟨gm 717 (by decide +kernel) rfl, gm 719 (by decide +kernel) rfl, gm 16 (by decide +kernel) rfl, gm 720 (by decide +kernel) rfl, gm 45 (by decide +kernel) rfl⟩
theorem kw_X7_62 : kwV RX7 62 yX7_isStar cX7_isStar 2 (some .boolean) := ⟨gm 725 (by decide +kernel) rfl, gm 727 (by decide +kernel) rfl, gm 17 (by decide +kernel) rfl, gm 728 (by decide +kernel) rfl, gm 45 (by decide +kernel) rfl⟩
theorem kw_X7_65 : kwV RX7 65 yX7_notes cX7_notes 7 none := ⟨gm 729 (by decide +kernel) rfl, gm 731 (by decide +kernel) rfl, gm 18 (by decide +kernel) rfl, gm 732 (by decide +kernel) rfl, gm 45 (by decide +kernel) rfl⟩
theorem kw_X7_69 : kwV RX7 69 yX7_wrongNow cX7_wrongNow 3 (some .int) := ⟨gm 733 (by decide +kernel) rfl, gm 735 (by decide +kernel) rfl, gm 19 (by decide +kernel) rfl, gm 736 (by decide +kernel) rfl, gm 45 (by decide +kernel) rfl⟩
theorem kw_X7_73 : kwV RX7 73 yX7_isOf cX7_isOf 5 (some .boolean) := ⟨gm 799 (by decide +kernel) rfl, gm 801 (by decide +kernel) rfl, gm 31 (by decide +kernel) rfl, gm 802 (by decide +kernel) rfl, gm 45 (by decide +kernel) rfl⟩
theorem kw_X7_76 : kwV RX7 76 yX7_figureNow cX7_figureNow 4 (some .int) := ⟨gm 795 (by decide +kernel) rfl, gm 797 (by decide +kernel) rfl, gm 30 (by decide +kernel) rfl, gm 798 (by decide +kernel) rfl, gm 45 (by decide +kernel) rfl⟩
theorem kw_X7_80 : kwV RX7 80 yX7_isFigure cX7_isFigure 2 (some .boolean) := ⟨gm 783 (by decide +kernel) rfl, gm 785 (by decide +kernel) rfl, gm 27 (by decide +kernel) rfl, gm 786 (by decide +kernel) rfl, gm 45 (by decide +kernel) rfl⟩
theorem kw_X7_83 : kwV RX7 83 yX7_hasLine cX7_hasLine 6 (some .boolean) := ⟨gm 787 (by decide +kernel) rfl, gm 789 (by decide +kernel) rfl, gm 28 (by decide +kernel) rfl, gm 790 (by decide +kernel) rfl, gm 45 (by decide +kernel) rfl⟩
theorem kw_X7_86 : kwV RX7 86 yX7_isFree cX7_isFree 3 (some .boolean) := ⟨gm 791 (by decide +kernel) rfl, gm 793 (by decide +kernel) rfl, gm 29 (by decide +kernel) rfl, gm 794 (by decide +kernel) rfl, gm 45 (by decide +kernel) rfl⟩
theorem kw_X7_89 : kwV RX7 89 yX7_puts cX7_puts 6 none := ⟨gm 803 (by decide +kernel) rfl, gm 805 (by decide +kernel) rfl, gm 32 (by decide +kernel) rfl, gm 806 (by decide +kernel) rfl, gm 45 (by decide +kernel) rfl⟩
theorem kw_X7_93 : kwV RX7 93 yX7_takes cX7_takes 4 none := ⟨gm 811 (by decide +kernel) rfl, gm 813 (by decide +kernel) rfl, gm 33 (by decide +kernel) rfl, gm 814 (by decide +kernel) rfl, gm 45 (by decide +kernel) rfl⟩
theorem kw_X7_97 : kwS RX7 97 yX7_meet cX7_meet 6 (some .boolean) := ⟨gm 847 (by decide +kernel) rfl, gm 848 (by decide +kernel) rfl, gm 849 (by decide +kernel) rfl, gm 45 (by decide +kernel) rfl⟩
theorem kw_X7_101 : kwV RX7 101 yX7_side cX7_side 5 (some .int) := ⟨gm 850 (by decide +kernel) rfl, gm 852 (by decide +kernel) rfl, gm 35 (by decide +kernel) rfl, gm 853 (by decide +kernel) rfl, gm 45 (by decide +kernel) rfl⟩
theorem kw_X7_105 : kwV RX7 105 yX7_cross cX7_cross 8 (some .boolean) := ⟨gm 843 (by decide +kernel) rfl, gm 845 (by decide +kernel) rfl, gm 34 (by decide +kernel) rfl, gm 846 (by decide +kernel) rfl, gm 45 (by decide +kernel) rfl⟩
theorem kw_X7_108 : kwV RX7 108 yX7_votesNow cX7_votesNow 5 (some .int) := ⟨gm 771 (by decide +kernel) rfl, gm 773 (by decide +kernel) rfl, gm 26 (by decide +kernel) rfl, gm 774 (by decide +kernel) rfl, gm 45 (by decide +kernel) rfl⟩
theorem kw_X7_112 : kwV RX7 112 yX7_gives cX7_gives 5 none := ⟨gm 767 (by decide +kernel) rfl, gm 769 (by decide +kernel) rfl, gm 25 (by decide +kernel) rfl, gm 770 (by decide +kernel) rfl, gm 45 (by decide +kernel) rfl⟩
theorem kw_X7_115 : kwV RX7 115 yX7_nameNow cX7_nameNow 2 (some .int) := ⟨gm 763 (by decide +kernel) rfl, gm 765 (by decide +kernel) rfl, gm 24 (by decide +kernel) rfl, gm 766 (by decide +kernel) rfl, gm 45 (by decide +kernel) rfl⟩
theorem kw_X7_119 : kwS RX7 119 yX7_sine cX7_sine 4 (some .int) := ⟨gm 756 (by decide +kernel) rfl, gm 757 (by decide +kernel) rfl, gm 758 (by decide +kernel) rfl, gm 45 (by decide +kernel) rfl⟩
theorem kw_X7_122 : kwS RX7 122 yX7_cosine cX7_cosine 1 (some .int) := ⟨gm 753 (by decide +kernel) rfl, gm 754 (by decide +kernel) rfl, gm 755 (by decide +kernel) rfl, gm 45 (by decide +kernel) rfl⟩
theorem kw_X7_125 : kwS RX7 125 yX7_quotient cX7_quotient 2 (some .int) := ⟨gm 760 (by decide +kernel) rfl, gm 761 (by decide +kernel) rfl, gm 762 (by decide +kernel) rfl, gm 45 (by decide +kernel) rfl⟩
theorem kw_X7_128 : kwS RX7 128 yX7_isTime cX7_isTime 3 (some .boolean) := ⟨gm 870 (by decide +kernel) rfl, gm 871 (by decide +kernel) rfl, gm 872 (by decide +kernel) rfl, gm 45 (by decide +kernel) rfl⟩
theorem kw_X7_131 : kwV RX7 131 yX7_heightNow cX7_heightNow 7 (some .int) := ⟨gm 749 (by decide +kernel) rfl, gm 751 (by decide +kernel) rfl, gm 23 (by decide +kernel) rfl, gm 752 (by decide +kernel) rfl, gm 45 (by decide +kernel) rfl⟩
theorem kw_X7_135 : kwV RX7 135 yX7_lowest cX7_lowest 9 (some .int) := ⟨gm 745 (by decide +kernel) rfl, gm 747 (by decide +kernel) rfl, gm 22 (by decide +kernel) rfl, gm 748 (by decide +kernel) rfl, gm 45 (by decide +kernel) rfl⟩
theorem kw_X7_138 : kwV RX7 138 yX7_isUpNow cX7_isUpNow 5 (some .boolean) := ⟨gm 741 (by decide +kernel) rfl, gm 743 (by decide +kernel) rfl, gm 21 (by decide +kernel) rfl, gm 744 (by decide +kernel) rfl, gm 45 (by decide +kernel) rfl⟩
theorem kw_X7_141 : kwV RX7 141 yX7_hoursNow cX7_hoursNow 6 (some .int) := ⟨gm 881 (by decide +kernel) rfl, gm 883 (by decide +kernel) rfl, gm 36 (by decide +kernel) rfl, gm 884 (by decide +kernel) rfl, gm 45 (by decide +kernel) rfl⟩
theorem kw_X7_147 : kwV RX7 147 yX7_isWrongNow cX7_isWrongNow 3 (some .boolean) := ⟨gm 737 (by decide +kernel) rfl, gm 739 (by decide +kernel) rfl, gm 20 (by decide +kernel) rfl, gm 740 (by decide +kernel) rfl, gm 45 (by decide +kernel) rfl⟩
theorem ky_X6_needPlace : kyn yX6_needPlace 2 := ⟨by decide +kernel, by decide +kernel, by decide +kernel⟩
theorem ky_X2_append : kyn yX2_append 2 := ⟨by decide +kernel, by decide +kernel, by decide +kernel⟩
theorem ky_X6_needStar : kyn yX6_needStar 1 := ⟨by decide +kernel, by decide +kernel, by decide +kernel⟩
theorem ky_X3_keep : kyn yX3_keep 5 := ⟨by decide +kernel, by decide +kernel, by decide +kernel⟩
theorem ky_X2_move : kyn yX2_move 3 := ⟨by decide +kernel, by decide +kernel, by decide +kernel⟩
theorem ky_X6_countWrongShows : kyn yX6_countWrongShows 0 := ⟨by decide +kernel, by decide +kernel, by decide +kernel⟩
theorem ky_X5_appendFigure : kyn yX5_appendFigure 0 := ⟨by decide +kernel, by decide +kernel, by decide +kernel⟩
theorem ky_X6_needFigure : kyn yX6_needFigure 1 := ⟨by decide +kernel, by decide +kernel, by decide +kernel⟩
theorem ky_X5_joins : kyn yX5_joins 3 := ⟨by decide +kernel, by decide +kernel, by decide +kernel⟩
theorem ky_X5_isOfAnother : kyn yX5_isOfAnother 2 := ⟨by decide +kernel, by decide +kernel, by decide +kernel⟩
theorem ky_X5_insert : kyn yX5_insert 4 := ⟨by decide +kernel, by decide +kernel, by decide +kernel⟩
theorem ky_X5_place : kyn yX5_place 2 := ⟨by decide +kernel, by decide +kernel, by decide +kernel⟩
theorem ky_X5_remove : kyn yX5_remove 2 := ⟨by decide +kernel, by decide +kernel, by decide +kernel⟩
theorem ky_X3_stepBack : kyn yX3_stepBack 0 := ⟨by decide +kernel, by decide +kernel, by decide +kernel⟩
theorem ky_X6_takeBack : kyn yX6_takeBack 1 := ⟨by decide +kernel, by decide +kernel, by decide +kernel⟩
theorem ky_X5_ownerOf : kyn yX5_ownerOf 1 := ⟨by decide +kernel, by decide +kernel, by decide +kernel⟩
theorem ky_X6_linesCross : kyn yX6_linesCross 2 := ⟨by decide +kernel, by decide +kernel, by decide +kernel⟩
theorem ky_X6_needName : kyn yX6_needName 1 := ⟨by decide +kernel, by decide +kernel, by decide +kernel⟩
theorem ky_X1_replace : kyn yX1_replace 3 := ⟨by decide +kernel, by decide +kernel, by decide +kernel⟩
theorem ky_X6_needLatitude : kyn yX6_needLatitude 1 := ⟨by decide +kernel, by decide +kernel, by decide +kernel⟩
theorem ky_X6_needDay : kyn yX6_needDay 1 := ⟨by decide +kernel, by decide +kernel, by decide +kernel⟩
theorem ky_X6_needHour : kyn yX6_needHour 1 := ⟨by decide +kernel, by decide +kernel, by decide +kernel⟩
theorem ky_X6_skyTurn : kyn yX6_skyTurn 2 := ⟨by decide +kernel, by decide +kernel, by decide +kernel⟩
theorem ky_X2_heightAt : kyn yX2_heightAt 3 := ⟨by decide +kernel, by decide +kernel, by decide +kernel⟩
theorem ky_X6_figureIsUp : kyn yX6_figureIsUp 3 := ⟨by decide +kernel, by decide +kernel, by decide +kernel⟩
theorem ky_X6_hoursOfStar : kyn yX6_hoursOfStar 3 := ⟨by decide +kernel, by decide +kernel, by decide +kernel⟩
theorem ky_X6_lowestHeight : kyn yX6_lowestHeight 3 := ⟨by decide +kernel, by decide +kernel, by decide +kernel⟩
theorem ky_X4_append : kyn yX4_append 4 := ⟨by decide +kernel, by decide +kernel, by decide +kernel⟩
theorem ky_X6_showIsWrong : kyn yX6_showIsWrong 1 := ⟨by decide +kernel, by decide +kernel, by decide +kernel⟩
theorem ky_X2_meet : kyn yX2_meet 4 := ⟨by decide +kernel, by decide +kernel, by decide +kernel⟩
theorem ky_J9_min_7cf53 : kyn yJ9_min_7cf53 2 := ⟨by decide +kernel, by decide +kernel, by decide +kernel⟩
theorem ky_J9_floorMod_7cf53 : kyn yJ9_floorMod_7cf53 2 := ⟨by decide +kernel, by decide +kernel, by decide +kernel⟩
theorem ky_X0_sine : kyn yX0_sine 1 := ⟨by decide +kernel, by decide +kernel, by decide +kernel⟩
theorem ky_J7_fill_53178 : kyn yJ7_fill_53178 2 := ⟨by decide +kernel, by decide +kernel, by decide +kernel⟩
theorem ky_X1_count : kyn yX1_count 3 := ⟨by decide +kernel, by decide +kernel, by decide +kernel⟩
theorem ky_X1_giveNames : kyn yX1_giveNames 0 := ⟨by decide +kernel, by decide +kernel, by decide +kernel⟩
theorem ky_X1_giveName : kyn yX1_giveName 3 := ⟨by decide +kernel, by decide +kernel, by decide +kernel⟩
theorem ky_X0_cosine : kyn yX0_cosine 1 := ⟨by decide +kernel, by decide +kernel, by decide +kernel⟩
theorem ky_J9_floorDiv_7cf53 : kyn yJ9_floorDiv_7cf53 2 := ⟨by decide +kernel, by decide +kernel, by decide +kernel⟩
theorem ky_X2_spansOverlap : kyn yX2_spansOverlap 4 := ⟨by decide +kernel, by decide +kernel, by decide +kernel⟩
theorem ky_X2_straddles : kyn yX2_straddles 4 := ⟨by decide +kernel, by decide +kernel, by decide +kernel⟩
theorem ky_J9_max_7cf53 : kyn yJ9_max_7cf53 2 := ⟨by decide +kernel, by decide +kernel, by decide +kernel⟩
theorem ky_X2_sideOf : kyn yX2_sideOf 3 := ⟨by decide +kernel, by decide +kernel, by decide +kernel⟩
theorem ky_J6_compare_7cf53 : kyn yJ6_compare_7cf53 2 := ⟨by decide +kernel, by decide +kernel, by decide +kernel⟩
theorem ky_X5_hasStar : kyn yX5_hasStar 2 := ⟨by decide +kernel, by decide +kernel, by decide +kernel⟩
theorem ky_X6_addStar : kyn yX6_addStar 2 := ⟨by decide +kernel, by decide +kernel, by decide +kernel⟩
theorem ky_X6_correct : kyn yX6_correct 3 := ⟨by decide +kernel, by decide +kernel, by decide +kernel⟩
theorem ky_X6_addFigure : kyn yX6_addFigure 0 := ⟨by decide +kernel, by decide +kernel, by decide +kernel⟩
theorem ky_X6_draw : kyn yX6_draw 3 := ⟨by decide +kernel, by decide +kernel, by decide +kernel⟩
theorem ky_X6_erase : kyn yX6_erase 2 := ⟨by decide +kernel, by decide +kernel, by decide +kernel⟩
theorem ky_X6_undo : kyn yX6_undo 0 := ⟨by decide +kernel, by decide +kernel, by decide +kernel⟩
theorem ky_X6_lines : kyn yX6_lines 1 := ⟨by decide +kernel, by decide +kernel, by decide +kernel⟩
theorem ky_X6_placeOf : kyn yX6_placeOf 1 := ⟨by decide +kernel, by decide +kernel, by decide +kernel⟩
theorem ky_X6_figureOf : kyn yX6_figureOf 1 := ⟨by decide +kernel, by decide +kernel, by decide +kernel⟩
theorem ky_X6_crossings : kyn yX6_crossings 2 := ⟨by decide +kernel, by decide +kernel, by decide +kernel⟩
theorem ky_X6_vote : kyn yX6_vote 3 := ⟨by decide +kernel, by decide +kernel, by decide +kernel⟩
theorem ky_X6_votes : kyn yX6_votes 2 := ⟨by decide +kernel, by decide +kernel, by decide +kernel⟩
theorem ky_X6_nameOf : kyn yX6_nameOf 1 := ⟨by decide +kernel, by decide +kernel, by decide +kernel⟩
theorem ky_X6_height : kyn yX6_height 4 := ⟨by decide +kernel, by decide +kernel, by decide +kernel⟩
theorem ky_X6_isUp : kyn yX6_isUp 4 := ⟨by decide +kernel, by decide +kernel, by decide +kernel⟩
theorem ky_X6_hours : kyn yX6_hours 3 := ⟨by decide +kernel, by decide +kernel, by decide +kernel⟩
theorem ky_X6_hoursByStars : kyn yX6_hoursByStars 3 := ⟨by decide +kernel, by decide +kernel, by decide +kernel⟩
theorem ky_X6_bestHour : kyn yX6_bestHour 3 := ⟨by decide +kernel, by decide +kernel, by decide +kernel⟩
theorem ky_X6_season : kyn yX6_season 3 := ⟨by decide +kernel, by decide +kernel, by decide +kernel⟩
theorem ky_X6_plan : kyn yX6_plan 4 := ⟨by decide +kernel, by decide +kernel, by decide +kernel⟩
theorem ky_X6_isWrong : kyn yX6_isWrong 1 := ⟨by decide +kernel, by decide +kernel, by decide +kernel⟩
theorem ky_L_addStar : kyn yL_addStar 4 := ⟨by decide +kernel, by decide +kernel, by decide +kernel⟩
theorem ky_X7_addStar : kyn yX7_addStar 2 := ⟨by decide +kernel, by decide +kernel, by decide +kernel⟩
theorem ky_X7_thrown : kyn yX7_thrown 0 := ⟨by decide +kernel, by decide +kernel, by decide +kernel⟩
theorem ky_L_correct : kyn yL_correct 5 := ⟨by decide +kernel, by decide +kernel, by decide +kernel⟩
theorem ky_X7_correct : kyn yX7_correct 3 := ⟨by decide +kernel, by decide +kernel, by decide +kernel⟩
theorem ky_L_addFigure : kyn yL_addFigure 2 := ⟨by decide +kernel, by decide +kernel, by decide +kernel⟩
theorem ky_X7_addFigure : kyn yX7_addFigure 0 := ⟨by decide +kernel, by decide +kernel, by decide +kernel⟩
theorem ky_L_draw : kyn yL_draw 5 := ⟨by decide +kernel, by decide +kernel, by decide +kernel⟩
theorem ky_X7_draw : kyn yX7_draw 3 := ⟨by decide +kernel, by decide +kernel, by decide +kernel⟩
theorem ky_L_erase : kyn yL_erase 4 := ⟨by decide +kernel, by decide +kernel, by decide +kernel⟩
theorem ky_X7_erase : kyn yX7_erase 2 := ⟨by decide +kernel, by decide +kernel, by decide +kernel⟩
theorem ky_L_undo : kyn yL_undo 2 := ⟨by decide +kernel, by decide +kernel, by decide +kernel⟩
theorem ky_X7_undo : kyn yX7_undo 0 := ⟨by decide +kernel, by decide +kernel, by decide +kernel⟩
theorem ky_X6_stars : kyn yX6_stars 0 := ⟨by decide +kernel, by decide +kernel, by decide +kernel⟩
theorem ky_X7_stars : kyn yX7_stars 0 := ⟨by decide +kernel, by decide +kernel, by decide +kernel⟩
theorem ky_X6_figures : kyn yX6_figures 0 := ⟨by decide +kernel, by decide +kernel, by decide +kernel⟩
theorem ky_X7_figures : kyn yX7_figures 0 := ⟨by decide +kernel, by decide +kernel, by decide +kernel⟩
theorem ky_L_lines : kyn yL_lines 3 := ⟨by decide +kernel, by decide +kernel, by decide +kernel⟩
theorem ky_X7_lines : kyn yX7_lines 1 := ⟨by decide +kernel, by decide +kernel, by decide +kernel⟩
theorem ky_L_placeOf : kyn yL_placeOf 3 := ⟨by decide +kernel, by decide +kernel, by decide +kernel⟩
theorem ky_X7_placeOf : kyn yX7_placeOf 1 := ⟨by decide +kernel, by decide +kernel, by decide +kernel⟩
theorem ky_L_figureOf : kyn yL_figureOf 3 := ⟨by decide +kernel, by decide +kernel, by decide +kernel⟩
theorem ky_X7_figureOf : kyn yX7_figureOf 1 := ⟨by decide +kernel, by decide +kernel, by decide +kernel⟩
theorem ky_L_crossings : kyn yL_crossings 4 := ⟨by decide +kernel, by decide +kernel, by decide +kernel⟩
theorem ky_X7_crossings : kyn yX7_crossings 2 := ⟨by decide +kernel, by decide +kernel, by decide +kernel⟩
theorem ky_L_vote : kyn yL_vote 5 := ⟨by decide +kernel, by decide +kernel, by decide +kernel⟩
theorem ky_X7_vote : kyn yX7_vote 3 := ⟨by decide +kernel, by decide +kernel, by decide +kernel⟩
theorem ky_L_votes : kyn yL_votes 4 := ⟨by decide +kernel, by decide +kernel, by decide +kernel⟩
theorem ky_X7_votes : kyn yX7_votes 2 := ⟨by decide +kernel, by decide +kernel, by decide +kernel⟩
theorem ky_L_nameOf : kyn yL_nameOf 3 := ⟨by decide +kernel, by decide +kernel, by decide +kernel⟩
theorem ky_X7_nameOf : kyn yX7_nameOf 1 := ⟨by decide +kernel, by decide +kernel, by decide +kernel⟩
theorem ky_L_height : kyn yL_height 6 := ⟨by decide +kernel, by decide +kernel, by decide +kernel⟩
theorem ky_X7_height : kyn yX7_height 4 := ⟨by decide +kernel, by decide +kernel, by decide +kernel⟩
theorem ky_L_isUp : kyn yL_isUp 6 := ⟨by decide +kernel, by decide +kernel, by decide +kernel⟩
theorem ky_X7_isUp : kyn yX7_isUp 4 := ⟨by decide +kernel, by decide +kernel, by decide +kernel⟩
theorem ky_L_hours : kyn yL_hours 5 := ⟨by decide +kernel, by decide +kernel, by decide +kernel⟩
theorem ky_X7_hours : kyn yX7_hours 3 := ⟨by decide +kernel, by decide +kernel, by decide +kernel⟩
theorem ky_L_hoursByStars : kyn yL_hoursByStars 5 := ⟨by decide +kernel, by decide +kernel, by decide +kernel⟩
theorem ky_X7_hoursByStars : kyn yX7_hoursByStars 3 := ⟨by decide +kernel, by decide +kernel, by decide +kernel⟩
theorem ky_L_bestHour : kyn yL_bestHour 5 := ⟨by decide +kernel, by decide +kernel, by decide +kernel⟩
theorem ky_X7_bestHour : kyn yX7_bestHour 3 := ⟨by decide +kernel, by decide +kernel, by decide +kernel⟩
theorem ky_L_season : kyn yL_season 5 := ⟨by decide +kernel, by decide +kernel, by decide +kernel⟩
theorem ky_X7_season : kyn yX7_season 3 := ⟨by decide +kernel, by decide +kernel, by decide +kernel⟩
theorem ky_L_plan : kyn yL_plan 6 := ⟨by decide +kernel, by decide +kernel, by decide +kernel⟩
theorem ky_X7_plan : kyn yX7_plan 4 := ⟨by decide +kernel, by decide +kernel, by decide +kernel⟩
theorem ky_L_isWrong : kyn yL_isWrong 3 := ⟨by decide +kernel, by decide +kernel, by decide +kernel⟩
theorem ky_X7_isWrong : kyn yX7_isWrong 1 := ⟨by decide +kernel, by decide +kernel, by decide +kernel⟩
theorem ky_X6_wrong : kyn yX6_wrong 0 := ⟨by decide +kernel, by decide +kernel, by decide +kernel⟩
theorem ky_X7_wrong : kyn yX7_wrong 0 := ⟨by decide +kernel, by decide +kernel, by decide +kernel⟩
theorem ky_X7_isIn : kyn yX7_isIn 3 := ⟨by decide +kernel, by decide +kernel, by decide +kernel⟩
theorem ky_X7_isPlace : kyn yX7_isPlace 2 := ⟨by decide +kernel, by decide +kernel, by decide +kernel⟩
theorem ky_X7_isFine : kyn yX7_isFine 1 := ⟨by decide +kernel, by decide +kernel, by decide +kernel⟩
theorem ky_X7_isStar : kyn yX7_isStar 1 := ⟨by decide +kernel, by decide +kernel, by decide +kernel⟩
theorem ky_X7_notes : kyn yX7_notes 5 := ⟨by decide +kernel, by decide +kernel, by decide +kernel⟩
theorem ky_X7_wrongNow : kyn yX7_wrongNow 0 := ⟨by decide +kernel, by decide +kernel, by decide +kernel⟩
theorem ky_X7_isOf : kyn yX7_isOf 2 := ⟨by decide +kernel, by decide +kernel, by decide +kernel⟩
theorem ky_X7_figureNow : kyn yX7_figureNow 1 := ⟨by decide +kernel, by decide +kernel, by decide +kernel⟩
theorem ky_X7_isFigure : kyn yX7_isFigure 1 := ⟨by decide +kernel, by decide +kernel, by decide +kernel⟩
theorem ky_X7_hasLine : kyn yX7_hasLine 3 := ⟨by decide +kernel, by decide +kernel, by decide +kernel⟩
theorem ky_X7_isFree : kyn yX7_isFree 2 := ⟨by decide +kernel, by decide +kernel, by decide +kernel⟩
theorem ky_X7_puts : kyn yX7_puts 4 := ⟨by decide +kernel, by decide +kernel, by decide +kernel⟩
theorem ky_X7_takes : kyn yX7_takes 2 := ⟨by decide +kernel, by decide +kernel, by decide +kernel⟩
theorem ky_X7_meet : kyn yX7_meet 4 := ⟨by decide +kernel, by decide +kernel, by decide +kernel⟩
theorem ky_X7_side : kyn yX7_side 3 := ⟨by decide +kernel, by decide +kernel, by decide +kernel⟩
theorem ky_X7_cross : kyn yX7_cross 2 := ⟨by decide +kernel, by decide +kernel, by decide +kernel⟩
theorem ky_X7_votesNow : kyn yX7_votesNow 2 := ⟨by decide +kernel, by decide +kernel, by decide +kernel⟩
theorem ky_X7_gives : kyn yX7_gives 0 := ⟨by decide +kernel, by decide +kernel, by decide +kernel⟩
theorem ky_X7_nameNow : kyn yX7_nameNow 1 := ⟨by decide +kernel, by decide +kernel, by decide +kernel⟩
theorem ky_X7_sine : kyn yX7_sine 1 := ⟨by decide +kernel, by decide +kernel, by decide +kernel⟩
theorem ky_X7_cosine : kyn yX7_cosine 1 := ⟨by decide +kernel, by decide +kernel, by decide +kernel⟩
theorem ky_X7_quotient : kyn yX7_quotient 2 := ⟨by decide +kernel, by decide +kernel, by decide +kernel⟩
theorem ky_X7_isTime : kyn yX7_isTime 3 := ⟨by decide +kernel, by decide +kernel, by decide +kernel⟩
theorem ky_X7_heightNow : kyn yX7_heightNow 4 := ⟨by decide +kernel, by decide +kernel, by decide +kernel⟩
theorem ky_X7_lowest : kyn yX7_lowest 4 := ⟨by decide +kernel, by decide +kernel, by decide +kernel⟩
theorem ky_X7_isUpNow : kyn yX7_isUpNow 4 := ⟨by decide +kernel, by decide +kernel, by decide +kernel⟩
theorem ky_X7_hoursNow : kyn yX7_hoursNow 3 := ⟨by decide +kernel, by decide +kernel, by decide +kernel⟩
theorem ky_X7_isWrongNow : kyn yX7_isWrongNow 1 := ⟨by decide +kernel, by decide +kernel, by decide +kernel⟩
