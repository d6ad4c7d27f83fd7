/-! ===== the class's cells and the reference's: what holds between any two calls ===== -/
def shC (fi na la tu W : Int → Int) : Prop := ∀ i : Int, 0 ≤ i → i < 12 → fi i = W (5 * i) ∧ la i = W (5 * i + 1) ∧ tu i = 15 * W (5 * i + 3) + W (5 * i + 2) ∧ na i = W (5 * i + 4)
def voC (F V : Int → Int) : Prop := ∀ v f : Int, 0 ≤ v → v < 6 → 0 ≤ f → f < 8 → F (v * 8 + f) = V (6 * f + v) - 1
def taC (T V : Int → Int) : Prop := ∀ f n : Int, 0 ≤ f → f < 8 → 0 ≤ n → n < 10 → T (f * 10 + n) = vtI V f n
def gvC (G V : Int → Int) (nf : Int) : Prop := ∀ f : Int, 0 ≤ f → f < 8 → G f = nmM (vtI V) nf (fun _ => 0) f
def vzC (nf : Int) (V : Int → Int) : Prop := ∀ f v : Int, nf ≤ f → f < 8 → 0 ≤ v → v < 6 → V (6 * f + v) = 0
abbrev Cpl (S : gSt) : Prop :=
  (S 2 = S 24) ∧ (S 3 = S 25) ∧ (S 5 = S 28) ∧ (S 6 = S 26) ∧ (S 7 = S 27) ∧ (S 1 0 = S 23 3) ∧ (0 ≤ S 23 3 ∧ S 23 3 ≤ 24) ∧ (S 4 0 = S 23 7) ∧ (0 ≤ S 23 7 ∧ S 23 7 ≤ 8) ∧ (S 12 0 = S 23 11) ∧ (0 ≤ S 23 11 ∧ S 23 11 ≤ 12) ∧ (okC (S 24) (S 25)) ∧ (okV (S 29)) ∧ (okSh (S 31)) ∧ (shC (S 13) (S 14) (S 15) (S 16) (S 31)) ∧ (voC (S 9) (S 29)) ∧ (taC (S 10) (S 29)) ∧ (gvC (S 11) (S 29) (S 23 7)) ∧ (vzC (S 23 7) (S 29)) ∧ (0 ≤ S 17 0 ∧ S 17 0 < 30) ∧ (S 17 1 = S 23 13) ∧ (0 ≤ S 23 13 ∧ S 23 13 ≤ 30) ∧ (hisC (S 17 0) (S 23 13) (S 18) (S 19) (S 20) (S 21) (S 22) (S 32)) ∧ (okU (S 23 7) (S 32) (S 23 13).toNat (S 28, S 26, S 27))
theorem Cpl.c2 {S : gSt} (h : Cpl S) : S 2 = S 24 := h.1
theorem Cpl.c3 {S : gSt} (h : Cpl S) : S 3 = S 25 := h.2.1
theorem Cpl.c5 {S : gSt} (h : Cpl S) : S 5 = S 28 := h.2.2.1
theorem Cpl.c6 {S : gSt} (h : Cpl S) : S 6 = S 26 := h.2.2.2.1
theorem Cpl.c7 {S : gSt} (h : Cpl S) : S 7 = S 27 := h.2.2.2.2.1
theorem Cpl.ns {S : gSt} (h : Cpl S) : S 1 0 = S 23 3 := h.2.2.2.2.2.1
theorem Cpl.nsb {S : gSt} (h : Cpl S) : 0 ≤ S 23 3 ∧ S 23 3 ≤ 24 := h.2.2.2.2.2.2.1
theorem Cpl.nf {S : gSt} (h : Cpl S) : S 4 0 = S 23 7 := h.2.2.2.2.2.2.2.1
theorem Cpl.nfb {S : gSt} (h : Cpl S) : 0 ≤ S 23 7 ∧ S 23 7 ≤ 8 := h.2.2.2.2.2.2.2.2.1
theorem Cpl.sc {S : gSt} (h : Cpl S) : S 12 0 = S 23 11 := h.2.2.2.2.2.2.2.2.2.1
theorem Cpl.scb {S : gSt} (h : Cpl S) : 0 ≤ S 23 11 ∧ S 23 11 ≤ 12 := h.2.2.2.2.2.2.2.2.2.2.1
theorem Cpl.C {S : gSt} (h : Cpl S) : okC (S 24) (S 25) := h.2.2.2.2.2.2.2.2.2.2.2.1
theorem Cpl.V {S : gSt} (h : Cpl S) : okV (S 29) := h.2.2.2.2.2.2.2.2.2.2.2.2.1
theorem Cpl.Sh {S : gSt} (h : Cpl S) : okSh (S 31) := h.2.2.2.2.2.2.2.2.2.2.2.2.2.1
theorem Cpl.shc {S : gSt} (h : Cpl S) : shC (S 13) (S 14) (S 15) (S 16) (S 31) := h.2.2.2.2.2.2.2.2.2.2.2.2.2.2.1
theorem Cpl.vo {S : gSt} (h : Cpl S) : voC (S 9) (S 29) := h.2.2.2.2.2.2.2.2.2.2.2.2.2.2.2.1
theorem Cpl.ta {S : gSt} (h : Cpl S) : taC (S 10) (S 29) := h.2.2.2.2.2.2.2.2.2.2.2.2.2.2.2.2.1
theorem Cpl.gv {S : gSt} (h : Cpl S) : gvC (S 11) (S 29) (S 23 7) := h.2.2.2.2.2.2.2.2.2.2.2.2.2.2.2.2.2.1
theorem Cpl.vz {S : gSt} (h : Cpl S) : vzC (S 23 7) (S 29) := h.2.2.2.2.2.2.2.2.2.2.2.2.2.2.2.2.2.2.1
theorem Cpl.hn {S : gSt} (h : Cpl S) : 0 ≤ S 17 0 ∧ S 17 0 < 30 := h.2.2.2.2.2.2.2.2.2.2.2.2.2.2.2.2.2.2.2.1
theorem Cpl.hk {S : gSt} (h : Cpl S) : S 17 1 = S 23 13 := h.2.2.2.2.2.2.2.2.2.2.2.2.2.2.2.2.2.2.2.2.1
theorem Cpl.hd {S : gSt} (h : Cpl S) : 0 ≤ S 23 13 ∧ S 23 13 ≤ 30 := h.2.2.2.2.2.2.2.2.2.2.2.2.2.2.2.2.2.2.2.2.2.1
theorem Cpl.his {S : gSt} (h : Cpl S) : hisC (S 17 0) (S 23 13) (S 18) (S 19) (S 20) (S 21) (S 22) (S 32) := h.2.2.2.2.2.2.2.2.2.2.2.2.2.2.2.2.2.2.2.2.2.2.1
theorem Cpl.un {S : gSt} (h : Cpl S) : okU (S 23 7) (S 32) (S 23 13).toNat (S 28, S 26, S 27) := h.2.2.2.2.2.2.2.2.2.2.2.2.2.2.2.2.2.2.2.2.2.2.2
theorem Cpl.gd {S : gSt} (h : Cpl S) : gdL (S 23 7) (S 28, S 26, S 27) := okU_g h.un
theorem Cpl.N {S : gSt} (h : Cpl S) : okN (S 28) := h.gd.1
theorem Cpl.E {S : gSt} (h : Cpl S) : okE (S 28) (S 26) := h.gd.2.1
theorem Cpl.O {S : gSt} (h : Cpl S) : okE (S 28) (S 27) := h.gd.2.2.1
theorem Cpl.N5 {S : gSt} (h : Cpl S) : okN (S 5) := by rw [h.c5]; exact h.N
theorem Cpl.E5 {S : gSt} (h : Cpl S) : okE (S 5) (S 6) := by rw [h.c5, h.c6]; exact h.E
theorem Cpl.O5 {S : gSt} (h : Cpl S) : okE (S 5) (S 7) := by rw [h.c5, h.c7]; exact h.O
theorem Cpl.C2 {S : gSt} (h : Cpl S) : okC (S 2) (S 3) := by rw [h.c2, h.c3]; exact h.C
theorem Cpl.G {S : gSt} (h : Cpl S) : okG (S 11) := fun j h0 h8 => by
  rw [h.gv j h0 h8]
  exact nmM_b h.nfb.2 _ h0 h8
theorem Cpl.P {S : gSt} (h : Cpl S) : okP (S 13) (S 14) (S 15) (S 16) := fun i h0 h1 => by
  obtain ⟨a1, a2, a3, a4⟩ := h.shc i h0 h1
  obtain ⟨b1, b2, b3, b4, b5⟩ := h.Sh i h0 h1
  rw [a1, a2, a3, a4]
  exact ⟨b1, b5, b2, by omega, by omega⟩
theorem Cpl.nsb1 {S : gSt} (h : Cpl S) : 0 ≤ S 1 0 ∧ S 1 0 ≤ 24 := by rw [h.ns]; exact h.nsb
theorem Cpl.nfb1 {S : gSt} (h : Cpl S) : 0 ≤ S 4 0 ∧ S 4 0 ≤ 8 := by rw [h.nf]; exact h.nfb
theorem Cpl.scb1 {S : gSt} (h : Cpl S) : 0 ≤ S 12 0 ∧ S 12 0 ≤ 12 := by rw [h.sc]; exact h.scb
theorem Cpl.hk1 {S : gSt} (h : Cpl S) : 0 ≤ S 17 1 ∧ S 17 1 ≤ 30 := by rw [h.hk]; exact h.hd
theorem Cpl.nm {S : gSt} (h : Cpl S) {f : Int} (f0 : 0 ≤ f) (f8 : f < 8) : S 11 f = nmM (vtI (S 29)) (S 23 7) (S 30) f := by
  rw [h.gv f f0 f8]; exact nmM_in h.nfb.2 _ _ f0 f8
theorem Cpl.thr {S : gSt} (h : Cpl S) (k : Int) : Cpl (st S 23 0 k) := ⟨h.c2, h.c3, h.c5, h.c6, h.c7, h.ns, h.nsb, h.nf, h.nfb, h.sc, h.scb, h.C, h.V, h.Sh, h.shc, h.vo, h.ta, h.gv, h.vz, h.hn, h.hk, h.hd, h.his, h.un⟩
theorem Cpl.out {S : gSt} (h : Cpl S) (v : Int) : Cpl (st S 33 0 v) := ⟨h.c2, h.c3, h.c5, h.c6, h.c7, h.ns, h.nsb, h.nf, h.nfb, h.sc, h.scb, h.C, h.V, h.Sh, h.shc, h.vo, h.ta, h.gv, h.vz, h.hn, h.hk, h.hd, h.his, h.un⟩
theorem Cpl.gvM' {S : gSt} (h : Cpl S) : Cpl (gvM S) := ⟨h.c2, h.c3, h.c5, h.c6, h.c7, h.ns, h.nsb, h.nf, h.nfb, h.sc, h.scb, h.C, h.V, h.Sh, h.shc, h.vo, h.ta, h.gv, h.vz, h.hn, h.hk, h.hd, h.his, h.un⟩
theorem Cpl.gvJ' {S : gSt} (h : Cpl S) (b : Bool) : Cpl (gvJ S b) := ⟨h.c2, h.c3, h.c5, h.c6, h.c7, h.ns, h.nsb, h.nf, h.nfb, h.sc, h.scb, h.C, h.V, h.Sh, h.shc, h.vo, h.ta, h.gv, h.vz, h.hn, h.hk, h.hd, h.his, h.un⟩
/-! answers -/
theorem Cpl.up {S : gSt} (h : Cpl S) {f lat : Int} (t : Int) (f0 : 0 ≤ f) (f8 : f < 8) (hl : -90 ≤ lat ∧ lat ≤ 90) : upB (S 5) (S 6) (S 7) (S 2) (S 3) f lat t = upM (S 28) (S 26) (S 27) (S 24) (S 25) f lat t := by
  rw [h.c5, h.c6, h.c7, h.c2, h.c3]
  exact up_eq t ⟨f0, f8⟩ h.N h.E h.C hl
theorem Cpl.sw {S : gSt} (h : Cpl S) {i : Int} (i0 : 0 ≤ i) (i1 : i < 12) : swB S i = swM S i := by
  obtain ⟨a1, a2, a3, a4⟩ := h.shc i i0 i1
  obtain ⟨b1, b2, b3, b4, b5⟩ := h.Sh i i0 i1
  unfold swB swM suM
  rw [a1, a2, a3, a4, h.up _ b1.1 b1.2 b2, h.nm b1.1 b1.2, Bool.and_comm]
theorem Cpl.wr {S : gSt} (h : Cpl S) : wrI S = wrM S := by
  unfold wrI wrM
  rw [h.sc]
  refine lpF_ext (fun i a i0 i1 => ?_)
  have := h.scb
  unfold cnQ
  rw [h.sw i0 (by omega)]
theorem Cpl.ow {S : gSt} (h : Cpl S) (a : Int) : owI (S 4 0) (S 5) (S 6) (S 7) a = laI (S 23 7) (S 28) (S 26) (S 27) a := by
  rw [h.nf, h.c5, h.c6, h.c7]
  exact ow_eq h.gd h.nfb a
theorem Cpl.cr {S : gSt} (h : Cpl S) {f q : Int} (f0 : 0 ≤ f) (f8 : f < 8) (q0 : 0 ≤ q) (q8 : q < 8) : crI (S 5) (S 6) (S 7) (S 2) (S 3) f q = cmI (S 28) (S 26) (S 27) (S 24) (S 25) f q := by
  rw [h.c5, h.c6, h.c7, h.c2, h.c3]
  exact cr_eq (h.N f f0 f8).1 (h.N q q0 q8).1
theorem Cpl.dy {S : gSt} (h : Cpl S) {f lat d : Int} (f0 : 0 ≤ f) (f8 : f < 8) (hl : -90 ≤ lat ∧ lat ≤ 90) : dyN (fun h => upB (S 5) (S 6) (S 7) (S 2) (S 3) f lat (15 * h + d)) = dyN (fun h => upM (S 28) (S 26) (S 27) (S 24) (S 25) f lat (15 * h + d)) :=
  dyN_e (fun i _ _ => h.up _ f0 f8 hl)
theorem Cpl.hb {S : gSt} (h : Cpl S) (f lat d : Int) : hbN (S 5) (S 6) (S 7) (S 2) (S 3) f lat d = dyN (fun h => upM (S 28) (S 26) (S 27) (S 24) (S 25) f lat (15 * h + d)) := by
  rw [h.c5, h.c6, h.c7, h.c2, h.c3]; exact hb_eq
theorem Cpl.bh {S : gSt} (h : Cpl S) {f lat d : Int} (f0 : 0 ≤ f) (f8 : f < 8) (hl : -90 ≤ lat ∧ lat ≤ 90) : bhI (fun h => lwI (S 5) (S 6) (S 7) (S 2) (S 3) f lat (15 * h + d)) = bhI (fun h => lwM (S 28) (S 26) (S 27) (S 24) (S 25) f lat (15 * h + d)) := by
  rw [h.c5, h.c6, h.c7, h.c2, h.c3]; exact bh_eq ⟨f0, f8⟩ h.N h.E h.C hl
theorem Cpl.se {S : gSt} (h : Cpl S) {f lat t : Int} (f0 : 0 ≤ f) (f8 : f < 8) (hl : -90 ≤ lat ∧ lat ≤ 90) : seI (fun d => upB (S 5) (S 6) (S 7) (S 2) (S 3) f lat (15 * t + d)) = seI (fun d => upM (S 28) (S 26) (S 27) (S 24) (S 25) f lat (15 * t + d)) := by
  rw [show (fun d => upB (S 5) (S 6) (S 7) (S 2) (S 3) f lat (15 * t + d)) = (fun d => upM (S 28) (S 26) (S 27) (S 24) (S 25) f lat (15 * t + d)) from funext (fun d => h.up _ f0 f8 hl)]
/-! the calls that change something -/
theorem Cpl.addStar {S : gSt} (h : Cpl S) {a u : Int} (hpo : (0 ≤ a ∧ a < 360) ∧ (-90 ≤ u ∧ u ≤ 90)) (hn : S 23 3 < 24) (v : Int) : Cpl (st (st (st (st (st (adS S a u) 33 0 v) 23 0 0) 24 (S 23 3) a) 25 (S 23 3) u) 23 3 (S 23 3 + 1)) := by
  have e := h.nsb
  refine ⟨?_, ?_, h.c5, h.c6, h.c7, ?_, ⟨?_, ?_⟩, h.nf, h.nfb, h.sc, h.scb, ?_, h.V, h.Sh, h.shc, h.vo, h.ta, h.gv, h.vz, h.hn, h.hk, h.hd, h.his, h.un⟩
  · show ud (S 2) (S 1 0) a = ud (S 24) (S 23 3) a; rw [h.c2, h.ns]
  · show ud (S 3) (S 1 0) u = ud (S 25) (S 23 3) u; rw [h.c3, h.ns]
  · show S 1 0 + 1 = S 23 3 + 1; rw [h.ns]
  · show 0 ≤ S 23 3 + 1; omega
  · show S 23 3 + 1 ≤ 24; omega
  · exact okC_mv h.C hpo.1 hpo.2
theorem Cpl.addFigure {S : gSt} (h : Cpl S) (hn : S 23 7 < 8) (v : Int) : Cpl (st (st (st (st S 4 0 (S 4 0 + 1)) 33 0 v) 23 0 0) 23 7 (S 23 7 + 1)) := by
  have e := h.nfb
  refine ⟨h.c2, h.c3, h.c5, h.c6, h.c7, h.ns, h.nsb, ?_, ⟨?_, ?_⟩, h.sc, h.scb, h.C, h.V, h.Sh, h.shc, h.vo, h.ta, ?_, ?_, h.hn, h.hk, h.hd, h.his, ?_⟩
  · show S 4 0 + 1 = S 23 7 + 1; rw [h.nf]
  · show 0 ≤ S 23 7 + 1; omega
  · show S 23 7 + 1 ≤ 8; omega
  · intro f f0 f8
    show S 11 f = nmM (vtI (S 29)) (S 23 7 + 1) (fun _ => 0) f
    rw [h.gv f f0 f8]
    unfold nmM
    rw [show lpF (giB (vtI (S 29)) (S 23 7 + 1)) (6 : Int).toNat 0 (fillA 8 (-1) (fun _ => 0), 0) = lpF (giB (vtI (S 29)) (S 23 7)) (6 : Int).toNat 0 (fillA 8 (-1) (fun _ => 0), 0) from ?_]
    refine lpF_ext (fun i q i0 i1 => ?_)
    have i1 : i < 0 + 6 := i1
    show lpF (giA (vtI (S 29)) (6 - i)) (S 23 7 + 1).toNat 0 q = lpF (giA (vtI (S 29)) (6 - i)) (S 23 7).toNat 0 q
    rw [show (S 23 7 + 1).toNat = (S 23 7).toNat + 1 by omega, lpF_ap]
    refine lpF_skip (m := 1) (fun j b j0 j1 => ?_)
    have ej : j = S 23 7 := by omega
    subst ej
    show lpF (giS (vtI (S 29)) (6 - i) (S 23 7)) (10 : Int).toNat 0 b = b
    refine lpF_skip (fun n b n0 n1 => if_neg (fun hq => ?_))
    have h3 : vtI (S 29) (S 23 7) n = 6 - i := hq.2.2
    have hz : ∀ c : Int, 0 ≤ c → c < 6 → S 29 (6 * S 23 7 + c) = 0 := fun c c0 c6 => h.vz _ c (Int.le_refl _) hn c0 c6
    have z0 := hz 0 (by omega) (by omega)
    rw [Int.add_zero] at z0
    rw [vt6, z0, hz 1 (by omega) (by omega), hz 2 (by omega) (by omega), hz 3 (by omega) (by omega), hz 4 (by omega) (by omega), hz 5 (by omega) (by omega)] at h3
    have hb : bc (0 = n + 1) = 0 := if_neg (by omega)
    rw [hb] at h3
    omega
  · intro f v f0 f8 v0 v6
    have f0 : S 23 7 + 1 ≤ f := f0
    exact h.vz f v (by omega) f8 v0 v6
  · exact okU_nf (show S 23 7 ≤ S 23 7 + 1 by omega) h.un
theorem Cpl.correct {S : gSt} (h : Cpl S) {z a u : Int} (hz : 0 ≤ z ∧ z < S 23 3) (hpo : (0 ≤ a ∧ a < 360) ∧ (-90 ≤ u ∧ u ≤ 90)) (v x y : Int) (hx : x = S 2 z) (hy : y = S 3 z) :
    Cpl (st (st (ntS (st (st (mvS (kpS S 0 z 0 x y) z a u) 33 0 v) 23 0 0) 0 z (S 24 z) (S 25 z) 0) 24 z a) 25 z u) := by
  have en := h.nsb
  have hr := his_put (S := S) (T := st (st (mvS (kpS S 0 z 0 x y) z a u) 33 0 v) 23 0 0) (a := 0) (b := z) (v := 0) (u := x) (w := y) (w1 := 0) (a1 := z) (b1 := S 24 z) (x1 := S 25 z) (y1 := 0) h.hn h.hk h.hd h.his ⟨rfl, rfl, Or.inl ⟨rfl, by rw [hx, h.c2], by rw [hy, h.c3]⟩⟩
  have hu := okU_put (S := st (st (mvS (kpS S 0 z 0 x y) z a u) 33 0 v) 23 0 0) (w := 0) (a := z) (b := S 24 z) (x := S 25 z) (y := 0) (M := (S 28, S 26, S 27)) h.nfb h.hd h.un h.gd (fun W k e0 e1 e2 e3 e4 => by
    have c := h.C z hz.1 (by omega)
    refine ⟨Or.inl ⟨e0, by rw [e1]; omega, by rw [e2]; omega, by rw [e3]; omega⟩, ?_⟩
    unfold bkL
    rw [if_neg (by omega), if_neg (by omega)]
    exact fun f _ _ => ⟨rfl, fun k _ _ => ⟨rfl, rfl⟩⟩)
  refine ⟨?_, ?_, h.c5, h.c6, h.c7, h.ns, h.nsb, h.nf, h.nfb, h.sc, h.scb, okC_mv h.C hpo.1 hpo.2, h.V, h.Sh, h.shc, h.vo, h.ta, h.gv, h.vz, hr.2.2.1, hr.2.1, hr.2.2.2, hr.1, hu⟩
  · show ud (S 2) z a = ud (S 24) z a; rw [h.c2]
  · show ud (S 3) z u = ud (S 25) z u; rw [h.c3]
theorem Cpl.draw {S : gSt} (h : Cpl S) {f a b : Int} (hf : 0 ≤ f ∧ f < S 23 7) (ha : 0 ≤ a ∧ a < S 23 3) (hb : 0 ≤ b ∧ b < S 23 3) (hc : S 28 f < 10)
    (hfa : laI (S 23 7) (S 28) (S 26) (S 27) a = -1 ∨ laI (S 23 7) (S 28) (S 26) (S 27) a = f) (hfb : laI (S 23 7) (S 28) (S 26) (S 27) b = -1 ∨ laI (S 23 7) (S 28) (S 26) (S 27) b = f) (v k : Int) (hk : k = S 5 f) :
    Cpl (ntS (lnIn (st (st (lnIn (kpS S 1 f k a b) 5 6 7 f k a b) 33 0 v) 23 0 0) 28 26 27 f (S 28 f) a b) 1 f (S 28 f) a b) := by
  have en := h.nsb
  have ef := h.nfb
  have hk : k = S 28 f := by rw [hk, h.c5]
  subst hk
  obtain ⟨Y, hY⟩ : ∃ Y, Y = lnIn (st (st (lnIn (kpS S 1 f (S 28 f) a b) 5 6 7 f (S 28 f) a b) 33 0 v) 23 0 0) 28 26 27 f (S 28 f) a b := ⟨_, rfl⟩
  have Y13 : Y 23 13 = S 23 13 := by rw [hY]; rfl
  have Y32 : Y 32 = S 32 := by rw [hY]; rfl
  have nb := h.N f hf.1 (by omega)
  have hr := his_put (S := S) (T := Y) (a := 1) (b := f) (v := S 28 f) (u := a) (w := b) (w1 := 1) (a1 := f) (b1 := S 28 f) (x1 := a) (y1 := b) h.hn (by rw [Y13]; exact h.hk) (by rw [Y13]; exact h.hd) (by rw [Y13, Y32]; exact h.his) ⟨rfl, rfl, Or.inr ⟨by decide, rfl, rfl, rfl⟩⟩
  have hu := okU_put (nf := S 23 7) (S := Y) (L := (S 28, S 26, S 27)) (w := 1) (a := f) (b := S 28 f) (x := a) (y := b) (M := inL (S 28, S 26, S 27) f (S 28 f) a b) h.nfb (by rw [Y13]; exact h.hd) (by rw [Y13, Y32]; exact h.un) (gd_in h.gd hf.1 hf.2 ef.2 hc ⟨ha.1, by omega⟩ ⟨hb.1, by omega⟩ (ow_of h.gd ef hfa) (ow_of h.gd ef hfb)) (fun W k e0 e1 e2 e3 e4 => by
    refine ⟨Or.inr (Or.inl ⟨e0, by rw [e1]; exact hf, ?_⟩), ?_⟩
    · rw [e1, e2]
      show 0 ≤ S 28 f ∧ S 28 f < ud (S 28) f (S 28 f + 1) f
      rw [ud_s]; omega
    · unfold bkL
      rw [if_pos e0, e1, e2]
      exact Leq_s (out_in (L := (S 28, S 26, S 27)) h.N hf.1 (by omega) nb.1 (Int.le_refl _) hc))
  subst hY
  refine ⟨h.c2, h.c3, ?_, ?_, ?_, h.ns, h.nsb, h.nf, h.nfb, h.sc, h.scb, h.C, h.V, h.Sh, h.shc, h.vo, h.ta, h.gv, h.vz, hr.2.2.1, hr.2.1, hr.2.2.2, hr.1, hu⟩
  · show ud (S 5) f (S 5 f + 1) = ud (S 28) f (S 28 f + 1); rw [h.c5]
  · show insA (S 6) (10 * f + S 28 f) (10 * f + S 5 f) a = insA (S 26) (10 * f + S 28 f) (10 * f + S 28 f) a; rw [h.c6, h.c5]
  · show insA (S 7) (10 * f + S 28 f) (10 * f + S 5 f) b = insA (S 27) (10 * f + S 28 f) (10 * f + S 28 f) b; rw [h.c7, h.c5]
theorem Cpl.erase {S : gSt} (h : Cpl S) {f k : Int} (hf : 0 ≤ f ∧ f < S 23 7) (hk : 0 ≤ k ∧ k < S 28 f) (v x y : Int) (hx : x = S 6 (10 * f + k)) (hy : y = S 7 (10 * f + k)) :
    Cpl (lnOut (ntS (st (st (lnOut (kpS S 2 f k x y) 5 6 7 f k) 33 0 v) 23 0 0) 2 f k (S 26 (10 * f + k)) (S 27 (10 * f + k))) 28 26 27 f k) := by
  have ef := h.nfb
  have hx : x = S 26 (10 * f + k) := by rw [hx, h.c6]
  have hy : y = S 27 (10 * f + k) := by rw [hy, h.c7]
  subst hx
  subst hy
  obtain ⟨Y, hY⟩ : ∃ Y, Y = st (st (lnOut (kpS S 2 f k (S 26 (10 * f + k)) (S 27 (10 * f + k))) 5 6 7 f k) 33 0 v) 23 0 0 := ⟨_, rfl⟩
  have Y13 : Y 23 13 = S 23 13 := by rw [hY]; rfl
  have Y32 : Y 32 = S 32 := by rw [hY]; rfl
  have nb := h.N f hf.1 (by omega)
  have hr := his_put (S := S) (T := Y) (a := 2) (b := f) (v := k) (u := S 26 (10 * f + k)) (w := S 27 (10 * f + k)) (w1 := 2) (a1 := f) (b1 := k) (x1 := S 26 (10 * f + k)) (y1 := S 27 (10 * f + k)) h.hn (by rw [Y13]; exact h.hk) (by rw [Y13]; exact h.hd) (by rw [Y13, Y32]; exact h.his) ⟨rfl, rfl, Or.inr ⟨by decide, rfl, rfl, rfl⟩⟩
  have hu := okU_put (nf := S 23 7) (S := Y) (L := (S 28, S 26, S 27)) (w := 2) (a := f) (b := k) (x := S 26 (10 * f + k)) (y := S 27 (10 * f + k)) (M := outL (S 28, S 26, S 27) f k) h.nfb (by rw [Y13]; exact h.hd) (by rw [Y13, Y32]; exact h.un) (gd_out h.gd hf.1 hf.2 ef.2 hk.1 hk.2) (fun W j e0 e1 e2 e3 e4 => by
    have en : (outL (S 28, S 26, S 27) f k).1 f = S 28 f - 1 := ud_s _ _ _
    refine ⟨Or.inr (Or.inr ⟨e0, by rw [e1]; exact hf, ?_, ?_⟩), ?_⟩
    · rw [e1, e2, en]; omega
    · rw [e1, en]; omega
    · unfold bkL
      rw [if_neg (by omega), if_pos e0, e1, e2, e3, e4]
      exact Leq_s (in_out (L := (S 28, S 26, S 27)) h.N hf.1 (by omega) hk.1 hk.2))
  subst hY
  refine ⟨h.c2, h.c3, ?_, ?_, ?_, h.ns, h.nsb, h.nf, h.nfb, h.sc, h.scb, h.C, h.V, h.Sh, h.shc, h.vo, h.ta, h.gv, h.vz, hr.2.2.1, hr.2.1, hr.2.2.2, hr.1, hu⟩
  · show ud (S 5) f (S 5 f - 1) = ud (S 28) f (S 28 f - 1); rw [h.c5]
  · show delA (S 6) (10 * f + k) (10 * f + S 5 f - 1) = delA (S 26) (10 * f + k) (10 * f + S 28 f - 1); rw [h.c6, h.c5]
  · show delA (S 7) (10 * f + k) (10 * f + S 5 f - 1) = delA (S 27) (10 * f + k) (10 * f + S 28 f - 1); rw [h.c7, h.c5]
/-- undo: the last row, on both sides -/
theorem Cpl.last {S : gSt} (h : Cpl S) (hp : 0 < S 23 13) : (S 18 ((S 17 0 + 29) % 30) = S 32 (5 * (S 23 13 - 1)) ∧ S 19 ((S 17 0 + 29) % 30) = S 32 (5 * (S 23 13 - 1) + 1) ∧
  ((S 32 (5 * (S 23 13 - 1)) = 0 ∧ S 21 ((S 17 0 + 29) % 30) = S 32 (5 * (S 23 13 - 1) + 2) ∧ S 22 ((S 17 0 + 29) % 30) = S 32 (5 * (S 23 13 - 1) + 3)) ∨ (S 32 (5 * (S 23 13 - 1)) ≠ 0 ∧ S 20 ((S 17 0 + 29) % 30) = S 32 (5 * (S 23 13 - 1) + 2) ∧ S 21 ((S 17 0 + 29) % 30) = S 32 (5 * (S 23 13 - 1) + 3) ∧ S 22 ((S 17 0 + 29) % 30) = S 32 (5 * (S 23 13 - 1) + 4)))) ∧ rwOk (S 23 7) (S 32) (S 23 13 - 1).toNat (S 28, S 26, S 27) ∧ okU (S 23 7) (S 32) (S 23 13 - 1).toNat (bkL (S 32) (S 23 13 - 1).toNat (S 28, S 26, S 27)) := by
  have h1 := h.his (S 23 13 - 1) (by omega) (by omega)
  have hn := h.hn
  rw [show (S 17 0 - S 23 13 + (S 23 13 - 1)) % 30 = (S 17 0 + 29) % 30 by omega] at h1
  have hu := h.un
  rw [show (S 23 13).toNat = (S 23 13 - 1).toNat + 1 by omega] at hu
  exact ⟨h1, hu.2.1, hu.2.2⟩
theorem Cpl.hisB {S : gSt} (h : Cpl S) (hp : 0 < S 23 13) : hisC ((S 17 0 + 29) % 30) (S 23 13 - 1) (S 18) (S 19) (S 20) (S 21) (S 22) (S 32) := fun i i0 i1 => by
  have h1 := h.his i i0 (by omega)
  have hn := h.hn
  rw [show ((S 17 0 + 29) % 30 - (S 23 13 - 1) + i) % 30 = (S 17 0 - S 23 13 + i) % 30 by omega]
  exact h1
theorem Cpl.undo0 {S : gSt} (h : Cpl S) (hp : 0 < S 23 13) (hk : S 32 (5 * (S 23 13 - 1)) = 0) (v : Int) :
    Cpl (st (st (st (st (st (mvS (sbS S) (S 19 ((S 17 0 + 29) % 30)) (S 21 ((S 17 0 + 29) % 30)) (S 22 ((S 17 0 + 29) % 30))) 33 0 v) 23 0 0) 23 13 (S 23 13 - 1)) 24 (S 32 (5 * (S 23 13 - 1) + 1)) (S 32 (5 * (S 23 13 - 1) + 2))) 25 (S 32 (5 * (S 23 13 - 1) + 1)) (S 32 (5 * (S 23 13 - 1) + 3))) := by
  obtain ⟨⟨l1, l2, l3⟩, l4, l5⟩ := h.last hp
  have hd := h.hd
  have hn := h.hn
  have l3 : S 21 ((S 17 0 + 29) % 30) = S 32 (5 * (S 23 13 - 1) + 2) ∧ S 22 ((S 17 0 + 29) % 30) = S 32 (5 * (S 23 13 - 1) + 3) := by
    rcases l3 with q | q
    · exact q.2
    · exact absurd hk q.1
  have e : ((S 23 13 - 1).toNat : Int) = S 23 13 - 1 := by omega
  unfold bkL at l5
  unfold rwOk at l4
  rw [e] at l4 l5
  rw [if_neg (by omega), if_neg (by omega)] at l5
  have l4 : (0 ≤ S 32 (5 * (S 23 13 - 1) + 2) ∧ S 32 (5 * (S 23 13 - 1) + 2) < 360) ∧ (-90 ≤ S 32 (5 * (S 23 13 - 1) + 3) ∧ S 32 (5 * (S 23 13 - 1) + 3) ≤ 90) := by omega
  refine ⟨?_, ?_, h.c5, h.c6, h.c7, h.ns, h.nsb, h.nf, h.nfb, h.sc, h.scb, okC_mv h.C l4.1 l4.2, h.V, h.Sh, h.shc, h.vo, h.ta, h.gv, h.vz, ?_, ?_, ?_, h.hisB hp, l5⟩
  · show ud (S 2) _ _ = ud (S 24) _ _; rw [h.c2, l2, l3.1]
  · show ud (S 3) _ _ = ud (S 25) _ _; rw [h.c3, l2, l3.2]
  · show 0 ≤ (S 17 0 + 29) % 30 ∧ (S 17 0 + 29) % 30 < 30; omega
  · show S 17 1 - 1 = S 23 13 - 1; rw [h.hk]
  · show 0 ≤ S 23 13 - 1 ∧ S 23 13 - 1 ≤ 30; omega
theorem Cpl.undo1 {S : gSt} (h : Cpl S) (hp : 0 < S 23 13) (hk : S 32 (5 * (S 23 13 - 1)) = 1) (v : Int) :
    Cpl (lnOut (st (st (st (lnOut (sbS S) 5 6 7 (S 19 ((S 17 0 + 29) % 30)) (S 20 ((S 17 0 + 29) % 30))) 33 0 v) 23 0 0) 23 13 (S 23 13 - 1)) 28 26 27 (S 32 (5 * (S 23 13 - 1) + 1)) (S 32 (5 * (S 23 13 - 1) + 2))) := by
  obtain ⟨⟨l1, l2, l3⟩, l4, l5⟩ := h.last hp
  have hd := h.hd
  have hn := h.hn
  have l3 : S 20 ((S 17 0 + 29) % 30) = S 32 (5 * (S 23 13 - 1) + 2) := by
    rcases l3 with q | q
    · omega
    · exact q.2.1
  have e : ((S 23 13 - 1).toNat : Int) = S 23 13 - 1 := by omega
  unfold bkL at l5
  rw [e] at l5
  rw [if_pos hk] at l5
  refine ⟨h.c2, h.c3, ?_, ?_, ?_, h.ns, h.nsb, h.nf, h.nfb, h.sc, h.scb, h.C, h.V, h.Sh, h.shc, h.vo, h.ta, h.gv, h.vz, ?_, ?_, ?_, h.hisB hp, l5⟩
  · show ud (S 5) _ (S 5 _ - 1) = ud (S 28) _ (S 28 _ - 1); rw [h.c5, l2]
  · show delA (S 6) (10 * _ + _) (10 * _ + S 5 _ - 1) = delA (S 26) (10 * _ + _) (10 * _ + S 28 _ - 1); rw [h.c5, h.c6, l2, l3]
  · show delA (S 7) (10 * _ + _) (10 * _ + S 5 _ - 1) = delA (S 27) (10 * _ + _) (10 * _ + S 28 _ - 1); rw [h.c5, h.c7, l2, l3]
  · show 0 ≤ (S 17 0 + 29) % 30 ∧ (S 17 0 + 29) % 30 < 30; omega
  · show S 17 1 - 1 = S 23 13 - 1; rw [h.hk]
  · show 0 ≤ S 23 13 - 1 ∧ S 23 13 - 1 ≤ 30; omega
theorem Cpl.undo2 {S : gSt} (h : Cpl S) (hp : 0 < S 23 13) (hk : S 32 (5 * (S 23 13 - 1)) = 2) (v : Int) :
    Cpl (lnIn (st (st (st (lnIn (sbS S) 5 6 7 (S 19 ((S 17 0 + 29) % 30)) (S 20 ((S 17 0 + 29) % 30)) (S 21 ((S 17 0 + 29) % 30)) (S 22 ((S 17 0 + 29) % 30))) 33 0 v) 23 0 0) 23 13 (S 23 13 - 1)) 28 26 27 (S 32 (5 * (S 23 13 - 1) + 1)) (S 32 (5 * (S 23 13 - 1) + 2)) (S 32 (5 * (S 23 13 - 1) + 3)) (S 32 (5 * (S 23 13 - 1) + 4))) := by
  obtain ⟨⟨l1, l2, l3⟩, l4, l5⟩ := h.last hp
  have hd := h.hd
  have hn := h.hn
  have l3 : S 20 ((S 17 0 + 29) % 30) = S 32 (5 * (S 23 13 - 1) + 2) ∧ S 21 ((S 17 0 + 29) % 30) = S 32 (5 * (S 23 13 - 1) + 3) ∧ S 22 ((S 17 0 + 29) % 30) = S 32 (5 * (S 23 13 - 1) + 4) := by
    rcases l3 with q | q
    · omega
    · exact q.2
  have e : ((S 23 13 - 1).toNat : Int) = S 23 13 - 1 := by omega
  unfold bkL at l5
  rw [e] at l5
  rw [if_neg (by omega), if_pos hk] at l5
  refine ⟨h.c2, h.c3, ?_, ?_, ?_, h.ns, h.nsb, h.nf, h.nfb, h.sc, h.scb, h.C, h.V, h.Sh, h.shc, h.vo, h.ta, h.gv, h.vz, ?_, ?_, ?_, h.hisB hp, l5⟩
  · show ud (S 5) _ (S 5 _ + 1) = ud (S 28) _ (S 28 _ + 1); rw [h.c5, l2]
  · show insA (S 6) (10 * _ + _) (10 * _ + S 5 _) _ = insA (S 26) (10 * _ + _) (10 * _ + S 28 _) _; rw [h.c5, h.c6, l2, l3.1, l3.2.1]
  · show insA (S 7) (10 * _ + _) (10 * _ + S 5 _) _ = insA (S 27) (10 * _ + _) (10 * _ + S 28 _) _; rw [h.c5, h.c7, l2, l3.1, l3.2.2]
  · show 0 ≤ (S 17 0 + 29) % 30 ∧ (S 17 0 + 29) % 30 < 30; omega
  · show S 17 1 - 1 = S 23 13 - 1; rw [h.hk]
  · show 0 ≤ S 23 13 - 1 ∧ S 23 13 - 1 ≤ 30; omega
theorem row5 (F : Int → Int) (n a b c d e : Int) : (ud (ud (ud (ud (ud F (5 * n) a) (5 * n + 1) b) (5 * n + 2) c) (5 * n + 3) d) (5 * n + 4) e) (5 * n) = a ∧ (ud (ud (ud (ud (ud F (5 * n) a) (5 * n + 1) b) (5 * n + 2) c) (5 * n + 3) d) (5 * n + 4) e) (5 * n + 1) = b ∧ (ud (ud (ud (ud (ud F (5 * n) a) (5 * n + 1) b) (5 * n + 2) c) (5 * n + 3) d) (5 * n + 4) e) (5 * n + 2) = c ∧ (ud (ud (ud (ud (ud F (5 * n) a) (5 * n + 1) b) (5 * n + 2) c) (5 * n + 3) d) (5 * n + 4) e) (5 * n + 3) = d ∧ (ud (ud (ud (ud (ud F (5 * n) a) (5 * n + 1) b) (5 * n + 2) c) (5 * n + 3) d) (5 * n + 4) e) (5 * n + 4) = e := by
  refine ⟨?_, ?_, ?_, ?_, ud_s _ _ _⟩
  · rw [ud_n (show 5 * n ≠ 5 * n + 4 by omega), ud_n (show 5 * n ≠ 5 * n + 3 by omega), ud_n (show 5 * n ≠ 5 * n + 2 by omega), ud_n (show 5 * n ≠ 5 * n + 1 by omega), ud_s]
  · rw [ud_n (show 5 * n + 1 ≠ 5 * n + 4 by omega), ud_n (show 5 * n + 1 ≠ 5 * n + 3 by omega), ud_n (show 5 * n + 1 ≠ 5 * n + 2 by omega), ud_s]
  · rw [ud_n (show 5 * n + 2 ≠ 5 * n + 4 by omega), ud_n (show 5 * n + 2 ≠ 5 * n + 3 by omega), ud_s]
  · rw [ud_n (show 5 * n + 3 ≠ 5 * n + 4 by omega), ud_s]
theorem Cpl.vote {S : gSt} (h : Cpl S) {v f n : Int} (hv : 0 ≤ v ∧ v < 6) (hf : 0 ≤ f ∧ f < S 23 7) (hn : -1 ≤ n ∧ n < 10) (o : Int) : Cpl (st (st (st (rpS S v f n) 33 0 o) 23 0 0) 29 (6 * f + v) (n + 1)) := by
  have ef := h.nfb
  obtain ⟨V', hV'⟩ : ∃ V', V' = ud (S 29) (6 * f + v) (n + 1) := ⟨_, rfl⟩
  have old : S 9 (v * 8 + f) = S 29 (6 * f + v) - 1 := h.vo v f hv.1 hv.2 hf.1 (by omega)
  have ov := h.V (6 * f + v) (by omega) (by omega)
  obtain ⟨T', hT'⟩ : ∃ T', T' = (cnS (cnS (st S 9 (v * 8 + f) n) f (S 9 (v * 8 + f)) (-1)) f n 1) 10 := ⟨_, rfl⟩
  have hta : taC T' V' := fun g m g0 g8 m0 m1 => by
    have hbase := h.ta g m g0 g8 m0 m1
    rw [hT', hV', vt_ud hv, ← hbase]
    obtain ⟨w, hw⟩ : ∃ w, w = S 9 (v * 8 + f) := ⟨_, rfl⟩
    rw [← hw] at old ⊢
    have one : ∀ (Q : gSt) (x d : Int), cnS Q f x d 10 (g * 10 + m) = Q 10 (g * 10 + m) + (if x ≠ -1 ∧ g * 10 + m = f * 10 + x then d else 0) := fun Q x d => by
      unfold cnS
      by_cases e : x = -1
      · rw [if_pos e, if_neg (fun q => q.1 e), Int.add_zero]
      · rw [if_neg e]
        show ud (Q 10) _ _ _ = _
        by_cases e2 : g * 10 + m = f * 10 + x
        · rw [if_pos ⟨e, e2⟩, e2, ud_s]
        · rw [ud_n e2, if_neg (fun q => e2 q.2), Int.add_zero]
    rw [one, one, show S 29 (6 * f + v) = w + 1 by omega]
    show S 10 (g * 10 + m) + _ + _ = S 10 (g * 10 + m) + _
    unfold bc
    by_cases eg : g = f
    · subst eg
      rw [if_pos rfl]
      by_cases c1 : m = w
      · rw [if_pos (show w ≠ -1 ∧ g * 10 + m = g * 10 + w by omega), if_pos (show w + 1 = m + 1 by omega)]
        by_cases c2 : m = n
        · rw [if_pos (by omega), if_pos (by omega)]; omega
        · rw [if_neg (by omega), if_neg (by omega)]; omega
      · rw [if_neg (show ¬ (w ≠ -1 ∧ g * 10 + m = g * 10 + w) by omega), if_neg (show ¬ (w + 1 = m + 1) by omega)]
        by_cases c2 : m = n
        · rw [if_pos (by omega), if_pos (by omega)]; omega
        · rw [if_neg (by omega), if_neg (by omega)]; omega
    · rw [if_neg (by omega), if_neg (by omega), if_neg eg]; omega
  have hvz : vzC (S 23 7) V' := fun g u g0 g8 u0 u6 => by
    rw [hV', ud_n (by omega)]
    exact h.vz g u g0 g8 u0 u6
  have hz0 : ∀ g m : Int, S 23 7 ≤ g → g < 8 → 0 ≤ m → m < 10 → T' (g * 10 + m) = 0 := fun g m g0 g8 m0 m1 => by
    have hb : bc (0 = m + 1) = 0 := if_neg (by omega)
    have z0 := hvz g 0 g0 g8 (by omega) (by omega)
    rw [Int.add_zero] at z0
    rw [hta g m (by omega) g8 m0 m1, vt6, z0, hvz g 1 g0 g8 (by omega) (by omega), hvz g 2 g0 g8 (by omega) (by omega), hvz g 3 g0 g8 (by omega) (by omega), hvz g 4 g0 g8 (by omega) (by omega), hvz g 5 g0 g8 (by omega) (by omega), hb]
    rfl
  have e9 : rpS S v f n 9 = ud (S 9) (v * 8 + f) n := by
    show (cnS (cnS (st S 9 (v * 8 + f) n) f (S 9 (v * 8 + f)) (-1)) f n 1) 9 = _
    rw [cnS_n (by decide), cnS_n (by decide)]; rfl
  have e11 : ∀ a : Nat, a ≠ 9 → a ≠ 10 → a ≠ 11 → rpS S v f n a = S a := fun a a1 a2 a3 => by
    unfold rpS gvS
    rw [sA_n a3, cnS_n a2, cnS_n a2]
    exact if_neg a1
  have eg : rpS S v f n 11 = nmI T' (S 11) := by
    have : (cnS (cnS (st S 9 (v * 8 + f) n) f (S 9 (v * 8 + f)) (-1)) f n 1) 11 = S 11 := by rw [cnS_n (by decide), cnS_n (by decide)]; rfl
    unfold rpS gvS
    rw [sA_s, this, hT']
  have et : rpS S v f n 10 = T' := by rw [hT']; rfl
  have eq : ∀ a : Nat, a ≠ 33 → a ≠ 23 → a ≠ 29 → a ≠ 9 → a ≠ 10 → a ≠ 11 → (st (st (st (rpS S v f n) 33 0 o) 23 0 0) 29 (6 * f + v) (n + 1)) a = S a := fun a a1 a2 a3 a4 a5 a6 => by
    unfold st
    rw [if_neg a3, if_neg a2, if_neg a1]; exact e11 a a4 a5 a6
  have e23 : ∀ j : Int, j ≠ 0 → (st (st (st (rpS S v f n) 33 0 o) 23 0 0) 29 (6 * f + v) (n + 1)) 23 j = S 23 j := fun j hj => by
    show ud (rpS S v f n 23) 0 0 j = S 23 j
    rw [ud_n hj, e11 23 (by decide) (by decide) (by decide)]
  have e29 : (st (st (st (rpS S v f n) 33 0 o) 23 0 0) 29 (6 * f + v) (n + 1)) 29 = V' := by
    show ud (rpS S v f n 29) (6 * f + v) (n + 1) = V'
    rw [e11 29 (by decide) (by decide) (by decide), hV']
  have k9 : (st (st (st (rpS S v f n) 33 0 o) 23 0 0) 29 (6 * f + v) (n + 1)) 9 = ud (S 9) (v * 8 + f) n := e9
  have k10 : (st (st (st (rpS S v f n) 33 0 o) 23 0 0) 29 (6 * f + v) (n + 1)) 10 = T' := et
  have k11 : (st (st (st (rpS S v f n) 33 0 o) 23 0 0) 29 (6 * f + v) (n + 1)) 11 = nmI T' (S 11) := eg
  generalize (st (st (st (rpS S v f n) 33 0 o) 23 0 0) 29 (6 * f + v) (n + 1)) = X at eq e23 e29 k9 k10 k11
  have q := fun a : Nat => eq a
  refine ⟨?_, ?_, ?_, ?_, ?_, ?_, ?_, ?_, ?_, ?_, ?_, ?_, ?_, ?_, ?_, ?_, ?_, ?_, ?_, ?_, ?_, ?_, ?_, ?_⟩
  · rw [q 2 (by decide) (by decide) (by decide) (by decide) (by decide) (by decide), q 24 (by decide) (by decide) (by decide) (by decide) (by decide) (by decide)]; exact h.c2
  · rw [q 3 (by decide) (by decide) (by decide) (by decide) (by decide) (by decide), q 25 (by decide) (by decide) (by decide) (by decide) (by decide) (by decide)]; exact h.c3
  · rw [q 5 (by decide) (by decide) (by decide) (by decide) (by decide) (by decide), q 28 (by decide) (by decide) (by decide) (by decide) (by decide) (by decide)]; exact h.c5
  · rw [q 6 (by decide) (by decide) (by decide) (by decide) (by decide) (by decide), q 26 (by decide) (by decide) (by decide) (by decide) (by decide) (by decide)]; exact h.c6
  · rw [q 7 (by decide) (by decide) (by decide) (by decide) (by decide) (by decide), q 27 (by decide) (by decide) (by decide) (by decide) (by decide) (by decide)]; exact h.c7
  · rw [q 1 (by decide) (by decide) (by decide) (by decide) (by decide) (by decide), e23 3 (by decide)]; exact h.ns
  · rw [e23 3 (by decide)]; exact h.nsb
  · rw [q 4 (by decide) (by decide) (by decide) (by decide) (by decide) (by decide), e23 7 (by decide)]; exact h.nf
  · rw [e23 7 (by decide)]; exact h.nfb
  · rw [q 12 (by decide) (by decide) (by decide) (by decide) (by decide) (by decide), e23 11 (by decide)]; exact h.sc
  · rw [e23 11 (by decide)]; exact h.scb
  · rw [q 24 (by decide) (by decide) (by decide) (by decide) (by decide) (by decide), q 25 (by decide) (by decide) (by decide) (by decide) (by decide) (by decide)]; exact h.C
  · rw [e29, hV']
    intro j j0 j1
    by_cases e : j = 6 * f + v
    · rw [e, ud_s]; omega
    · rw [ud_n e]; exact h.V j j0 j1
  · rw [q 31 (by decide) (by decide) (by decide) (by decide) (by decide) (by decide)]; exact h.Sh
  · rw [q 13 (by decide) (by decide) (by decide) (by decide) (by decide) (by decide), q 14 (by decide) (by decide) (by decide) (by decide) (by decide) (by decide), q 15 (by decide) (by decide) (by decide) (by decide) (by decide) (by decide), q 16 (by decide) (by decide) (by decide) (by decide) (by decide) (by decide), q 31 (by decide) (by decide) (by decide) (by decide) (by decide) (by decide)]; exact h.shc
  · rw [e29, k9, hV']
    intro u g u0 u6 g0 g8
    by_cases e : u = v ∧ g = f
    · rw [e.1, e.2, ud_s, ud_s]; omega
    · rw [ud_n (by omega), ud_n (by omega)]; exact h.vo u g u0 u6 g0 g8
  · rw [e29, k10]; exact hta
  · rw [e29, k11, e23 7 (by decide)]
    intro g g0 g8
    exact nm_eq ef.1 ef.2 hta hz0 _ _ g0 g8
  · rw [e29, e23 7 (by decide)]; exact hvz
  · rw [q 17 (by decide) (by decide) (by decide) (by decide) (by decide) (by decide)]; exact h.hn
  · rw [q 17 (by decide) (by decide) (by decide) (by decide) (by decide) (by decide), e23 13 (by decide)]; exact h.hk
  · rw [e23 13 (by decide)]; exact h.hd
  · rw [q 17 (by decide) (by decide) (by decide) (by decide) (by decide) (by decide), q 18 (by decide) (by decide) (by decide) (by decide) (by decide) (by decide), q 19 (by decide) (by decide) (by decide) (by decide) (by decide) (by decide), q 20 (by decide) (by decide) (by decide) (by decide) (by decide) (by decide), q 21 (by decide) (by decide) (by decide) (by decide) (by decide) (by decide), q 22 (by decide) (by decide) (by decide) (by decide) (by decide) (by decide), q 32 (by decide) (by decide) (by decide) (by decide) (by decide) (by decide), e23 13 (by decide)]; exact h.his
  · rw [q 28 (by decide) (by decide) (by decide) (by decide) (by decide) (by decide), q 26 (by decide) (by decide) (by decide) (by decide) (by decide) (by decide), q 27 (by decide) (by decide) (by decide) (by decide) (by decide) (by decide), q 32 (by decide) (by decide) (by decide) (by decide) (by decide) (by decide), e23 13 (by decide), e23 7 (by decide)]; exact h.un
theorem Cpl.plan {S : gSt} (h : Cpl S) {f lat d t : Int} (hf : 0 ≤ f ∧ f < S 23 7) (hl : -90 ≤ lat ∧ lat ≤ 90) (hd : 0 ≤ d ∧ d < 365) (ht : 0 ≤ t ∧ t < 24) (hs : S 23 11 < 12) (o m : Int) (hm : m = S 11 f) {Y X : gSt} (hY : Y = st (apS S f m lat (15 * t + d)) 33 0 o)
    (hX : X = st (st (gvM (st (st (st (st (st (gvM Y) 23 0 0) 31 (5 * (S 23 11)) f) 31 ((5 * (S 23 11)) + 1) lat) 31 ((5 * (S 23 11)) + 2) d) 31 ((5 * (S 23 11)) + 3) t)) 31 ((5 * (S 23 11)) + 4) (nmM (vtI (S 29)) (S 23 7) ((st (st (st (st (st (gvM Y) 23 0 0) 31 (5 * (S 23 11)) f) 31 ((5 * (S 23 11)) + 1) lat) 31 ((5 * (S 23 11)) + 2) d) 31 ((5 * (S 23 11)) + 3) t) 30) f)) 23 11 ((S 23 11) + 1)) : Cpl X := by
  have ef := h.nfb
  have es := h.scb
  have hm0 := h.nm hf.1 (show f < 8 by omega)
  obtain ⟨k, hk⟩ : ∃ k, k = nmM (vtI (S 29)) (S 23 7) ((st (st (st (st (st (gvM Y) 23 0 0) 31 (5 * (S 23 11)) f) 31 ((5 * (S 23 11)) + 1) lat) 31 ((5 * (S 23 11)) + 2) d) 31 ((5 * (S 23 11)) + 3) t) 30) f := ⟨_, rfl⟩
  have hkm : k = m := by rw [hk, hm, hm0]; exact nmM_in ef.2 _ _ hf.1 (by omega)
  have hmb := nmM_b (T := vtI (S 29)) ef.2 (S 30) hf.1 (show f < 8 by omega)
  rw [← hm0, ← hm] at hmb
  rw [← hk, hkm] at hX
  subst hX
  subst hY
  clear hk hkm
  refine ⟨h.c2, h.c3, h.c5, h.c6, h.c7, h.ns, h.nsb, h.nf, h.nfb, ?_, ⟨?_, ?_⟩, h.C, h.V, ?_, ?_, h.vo, h.ta, h.gv, h.vz, h.hn, h.hk, h.hd, h.his, h.un⟩
  · show S 12 0 + 1 = S 23 11 + 1; rw [h.sc]
  · show 0 ≤ S 23 11 + 1; omega
  · show S 23 11 + 1 ≤ 12; omega
  · show okSh (ud (ud (ud (ud (ud (S 31) (5 * S 23 11) f) (5 * S 23 11 + 1) lat) (5 * S 23 11 + 2) d) (5 * S 23 11 + 3) t) (5 * S 23 11 + 4) m)
    intro i i0 i1
    by_cases e : i = S 23 11
    · obtain ⟨r0, r1, r2, r3, r4⟩ := row5 (S 31) (S 23 11) f lat d t m
      rw [e, r0, r1, r2, r3, r4]
      exact ⟨by omega, hl, hd, ht, hmb⟩
    · have hc : ∀ c : Int, 0 ≤ c → c ≤ 4 → ud (ud (ud (ud (ud (S 31) (5 * S 23 11) f) (5 * S 23 11 + 1) lat) (5 * S 23 11 + 2) d) (5 * S 23 11 + 3) t) (5 * S 23 11 + 4) m (5 * i + c) = S 31 (5 * i + c) := fun c c0 c4 => by
        rw [ud_n (by omega), ud_n (by omega), ud_n (by omega), ud_n (by omega), ud_n (by omega)]
      have hc0 := hc 0 (by omega) (by omega)
      rw [Int.add_zero] at hc0
      rw [hc0, hc 1 (by omega) (by omega), hc 2 (by omega) (by omega), hc 3 (by omega) (by omega), hc 4 (by omega) (by omega)]
      exact h.Sh i i0 i1
  · show shC (ud (S 13) (S 12 0) f) (ud (S 14) (S 12 0) m) (ud (S 15) (S 12 0) lat) (ud (S 16) (S 12 0) (15 * t + d)) (ud (ud (ud (ud (ud (S 31) (5 * S 23 11) f) (5 * S 23 11 + 1) lat) (5 * S 23 11 + 2) d) (5 * S 23 11 + 3) t) (5 * S 23 11 + 4) m)
    rw [h.sc]
    intro i i0 i1
    by_cases e : i = S 23 11
    · rw [e, ud_s, ud_s, ud_s, ud_s]
      obtain ⟨r0, r1, r2, r3, r4⟩ := row5 (S 31) (S 23 11) f lat d t m
      rw [r0, r1, r2, r3, r4]
      exact ⟨rfl, rfl, rfl, rfl⟩
    · have hc : ∀ c : Int, 0 ≤ c → c ≤ 4 → ud (ud (ud (ud (ud (S 31) (5 * S 23 11) f) (5 * S 23 11 + 1) lat) (5 * S 23 11 + 2) d) (5 * S 23 11 + 3) t) (5 * S 23 11 + 4) m (5 * i + c) = S 31 (5 * i + c) := fun c c0 c4 => by
        rw [ud_n (by omega), ud_n (by omega), ud_n (by omega), ud_n (by omega), ud_n (by omega)]
      have hc0 := hc 0 (by omega) (by omega)
      rw [Int.add_zero] at hc0
      rw [hc0, hc 1 (by omega) (by omega), hc 2 (by omega) (by omega), hc 3 (by omega) (by omega), hc 4 (by omega) (by omega), ud_n e, ud_n e, ud_n e, ud_n e]
      exact h.shc i i0 i1
/-- the start -/
def S0 : gSt := fun k j => if k = 9 ∧ 0 ≤ j ∧ j < 48 ∨ k = 11 ∧ 0 ≤ j ∧ j < 8 then -1 else 0
theorem Cpl_0 : Cpl S0 := by
  have z : ∀ (k : Nat) (j : Int), k ≠ 9 → k ≠ 11 → S0 k j = 0 := fun k j h1 h2 => if_neg (fun q => by rcases q with q | q; exact h1 q.1; exact h2 q.1)
  have zf : ∀ (k : Nat), k ≠ 9 → k ≠ 11 → S0 k = fun _ => 0 := fun k h1 h2 => funext (fun j => z k j h1 h2)
  have b0 : ∀ n : Int, 0 ≤ n → bc (0 = n + 1) = 0 := fun n h => if_neg (by omega)
  refine ⟨?_, ?_, ?_, ?_, ?_, ?_, ?_, ?_, ?_, ?_, ?_, ?_, ?_, ?_, ?_, ?_, ?_, ?_, ?_, ?_, ?_, ?_, ?_, ?_⟩
  · rw [zf 2 (by decide) (by decide), zf 24 (by decide) (by decide)]
  · rw [zf 3 (by decide) (by decide), zf 25 (by decide) (by decide)]
  · rw [zf 5 (by decide) (by decide), zf 28 (by decide) (by decide)]
  · rw [zf 6 (by decide) (by decide), zf 26 (by decide) (by decide)]
  · rw [zf 7 (by decide) (by decide), zf 27 (by decide) (by decide)]
  · rfl
  · exact ⟨by decide, by decide⟩
  · rfl
  · exact ⟨by decide, by decide⟩
  · rfl
  · exact ⟨by decide, by decide⟩
  · intro i _ _; rw [z 24 i (by decide) (by decide), z 25 i (by decide) (by decide)]; decide
  · intro i _ _; rw [z 29 i (by decide) (by decide)]; decide
  · intro i _ _; rw [z 31 _ (by decide) (by decide), z 31 _ (by decide) (by decide), z 31 _ (by decide) (by decide), z 31 _ (by decide) (by decide), z 31 _ (by decide) (by decide)]; decide
  · intro i _ _; rw [z 13 i (by decide) (by decide), z 14 i (by decide) (by decide), z 15 i (by decide) (by decide), z 16 i (by decide) (by decide), zf 31 (by decide) (by decide)]; exact ⟨rfl, rfl, rfl, rfl⟩
  · intro v f v0 v6 f0 f8
    rw [z 29 _ (by decide) (by decide)]
    exact if_pos (Or.inl ⟨rfl, by omega, by omega⟩)
  · intro f n f0 f8 n0 n1
    rw [z 10 _ (by decide) (by decide), vt6, zf 29 (by decide) (by decide)]
    rw [b0 n n0]; rfl
  · intro f f0 f8
    have e : S0 11 f = -1 := if_pos (Or.inr ⟨rfl, f0, f8⟩)
    have e2 : nmM (vtI (S0 29)) (S0 23 7) (fun _ => 0) f = fillA 8 (-1) (fun _ => 0) f := rfl
    rw [e, e2]
    exact (if_pos ⟨f0, f8⟩).symm
  · intro f v _ _ _ _; exact z 29 _ (by decide) (by decide)
  · exact ⟨by decide, by decide⟩
  · rfl
  · exact ⟨by decide, by decide⟩
  · intro i i0 i1
    have i1 : i < 0 := i1
    omega
  · show gdL 0 _
    rw [zf 28 (by decide) (by decide)]
    refine ⟨fun f _ _ => ⟨Int.le_refl (0 : Int), (by decide : (0 : Int) ≤ 10)⟩, fun f k _ _ k0 k1 => ?_, fun f k _ _ k0 k1 => ?_, fun f _ _ => rfl, fun f q z0 _ _ _ _ ⟨k, k0, k1, _⟩ _ => ?_⟩
    · have k1 : k < 0 := k1
      omega
    · have k1 : k < 0 := k1
      omega
    · have k1 : k < 0 := k1
      omega
