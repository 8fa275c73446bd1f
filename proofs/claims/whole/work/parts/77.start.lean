/-! the start: both states as the constructors leave them -/
def s0I : Nat → Nat → Int32 := fun o => if o = 6 then (fun j => if j = 3 then 8 else 0) else if o = 10 then (fun j => if j = 5 then -1 else 0) else fun _ => 0
def s0L : Nat → Nat → Int64 := fun o => if o = 7 then vp_updL (vp_updL (vp_updL (vp_updL (vp_updL (vp_updL (vp_updL (vp_updL (fun _ => 0) 0 4294967296) 1 4294967296) 2 4294967296) 3 4294967296) 4 4294967296) 5 4294967296) 6 4294967296) 7 4294967296 else if o = 10 then (fun j => if j = 6 then 4294967296 else 0) else fun _ => 0
def m0I : Nat → Nat → Int32 := fun o => if o = 0 then (fun j => if j = 48 then 1 else if j = 52 then -1 else 0) else if o = 15 then upd (upd (upd (upd (upd (upd (upd (upd (fun _ => 0) 0 1) 1 1) 2 1) 3 1) 4 1) 5 1) 6 1) 7 1 else fun _ => 0
def st0 : Sg := (s0I, s0L)
def sm0 : Sg := (m0I, fun _ _ => 0)
theorem rel0 : REL st0 sm0 := by
  refine ⟨fun _ => 0, fun _ => 0, fun _ => 0, 0, 8, 0, 0, 0, 0, Th_new _ _ _ _, Mm_new (fun j hj => ?_) (fun j hj => ?_) (fun j hj => ?_), by decide +kernel, by omega, by omega, by omega, by omega, ⟨by decide +kernel, by decide +kernel, by omega, fun x hx => absurd hx (by omega)⟩, fun j hj => absurd hj (by omega), by decide +kernel, by decide +kernel, by omega, ?_, by decide +kernel, by decide +kernel, by decide +kernel, by decide +kernel, by decide +kernel, by decide +kernel, by decide +kernel, by omega⟩
  · rcases (show j = 0 ∨ j = 1 ∨ j = 2 ∨ j = 3 ∨ j = 4 ∨ j = 5 ∨ j = 6 ∨ j = 7 by omega) with rfl | rfl | rfl | rfl | rfl | rfl | rfl | rfl <;> decide +kernel
  · unfold mT
    rw [if_pos hj]
    rcases (show j = 0 ∨ j = 1 ∨ j = 2 ∨ j = 3 ∨ j = 4 ∨ j = 5 ∨ j = 6 ∨ j = 7 by omega) with rfl | rfl | rfl | rfl | rfl | rfl | rfl | rfl <;> decide +kernel
  · unfold mN
    rw [if_pos hj]
    rcases (show j = 0 ∨ j = 1 ∨ j = 2 ∨ j = 3 ∨ j = 4 ∨ j = 5 ∨ j = 6 ∨ j = 7 by omega) with rfl | rfl | rfl | rfl | rfl | rfl | rfl | rfl <;> decide +kernel
  · have e : sL st0 10 6 = pk 1 0 := by decide +kernel
    have e1 : sI sm0 0 48 = 1 := by decide +kernel
    have e2 : sI sm0 0 49 = 0 := by decide +kernel
    rw [e, e1, e2]
    exact V.no
