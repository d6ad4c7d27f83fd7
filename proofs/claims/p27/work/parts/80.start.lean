/-! ===== the start: what the tables give ===== -/
theorem sr_ref {cls text : String} {index : Nat} {args : Array Value} {s : State} (h : (Cond.stringRef cls index text).before args s = true) : ∃ a : Nat, (Term.string cls index).eval #[] s none [] s = some (.ref a) := by
  simp only [Cond.before, Cond.holds, Cond.value] at h
  simp only [Term.eval]
  cases hc : s.vm.findClass cls with
  | none => simp [hc] at h
  | some k =>
    cases hr : s.resolvedAt? cls index with
    | none => simp [hr, hc] at h
    | some r =>
      cases r with
      | string a =>
        refine ⟨a, ?_⟩
        unfold State.resolvedAt? at hr
        simp only [hc, Option.bind_eq_bind, Option.bind_some] at hr ⊢
        cases hk : s.vm.classes[k]? with
        | none => rw [hk] at hr; cases hr
        | some kc =>
          rw [hk] at hr
          simp only [Option.bind_some] at hr ⊢
          rw [hr]; rfl
      | _ => simp [hr, hc] at h
def saF (s : State) : Nat → Nat := fun k => match (Term.string "SkyLoom" k).eval #[] s none [] s with
  | some (.ref a) => a
  | _ => 0
theorem SW_of {s : State} {args : Array Value} (hts : ∀ w ∈ lw_tbl, w.before args s = true) {ad : Nat → Nat} {D : va_G} {cI cL : ClassId} : SW (ad, D, cI, cL, saF s) s := fun k tx hk => by
  obtain ⟨a, ha⟩ := sr_ref (hts _ hk)
  have e : saF s k = a := by unfold saF; rw [ha]
  show vk_R "SkyLoom" k tx (saF s k) s
  rw [e]
  exact vk_R.of (A := #[]) (vk_R.of (hts _ hk) (a := a) (by first | exact ha | (rw [Term.eval] at ha ⊢; exact ha))).1 ha
