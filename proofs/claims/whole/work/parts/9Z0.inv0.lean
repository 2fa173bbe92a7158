/-! the memory that the constructors leave keeps the invariant -/
theorem nl_LAY : nl128 = LAY := rfl
set_option maxHeartbeats 4000000 in
theorem nm_pr : nm12 44 = nm12 2 := by
  funext j
  simp [nm12, nm11, nm10, nm9, nm8, nm7, nm6, nm5, nm4, nm3, nm2, nm1, nm0, up2]
theorem nm_wf : WfK (cf nm12) := by
  have eW : kW (cf nm12) = 0 := by decide +kernel
  have eT : kT (cf nm12) = 0 := by decide +kernel
  refine ⟨by decide +kernel, by decide +kernel, by decide +kernel, by decide +kernel, ?_, by decide +kernel, by decide +kernel, by decide +kernel, ?_, ?_, by decide +kernel, ?_, ?_⟩
  · intro a b a0 a3 b0 b3
    rcases (show a = 0 ∨ a = 1 ∨ a = 2 ∨ a = 3 by omega) with rfl | rfl | rfl | rfl <;> rcases (show b = 0 ∨ b = 1 ∨ b = 2 ∨ b = 3 by omega) with rfl | rfl | rfl | rfl <;> decide +kernel
  · intro w i h0 h1; omega
  · intro w h0 h1; omega
  · intro t h0 h1; omega
  · intro t i h0 h1; omega
theorem nm_cf : cfM nm12 = cf nm12 := by
  show (nm12 43 1, nm12 43 3, nm12 43 4, nm12 43 5, nm12 44, nm12 43 6, nm12 43 7, nm12 45, nm12 46, nm12 43 10, nm12 47, nm12 48) = (nm12 1 0, nm12 1 1, nm12 1 2, nm12 1 3, nm12 2, nm12 6 0, nm12 6 1, nm12 7, nm12 8, nm12 9 0, nm12 10, nm12 11)
  have e1 : nm12 45 = nm12 7 := funext fun j => rfl
  have e2 : nm12 46 = nm12 8 := funext fun j => rfl
  have e3 : nm12 47 = nm12 10 := funext fun j => rfl
  have e4 : nm12 48 = nm12 11 := funext fun j => rfl
  rw [nm_pr, e1, e2, e3, e4]
  rfl
theorem nm_Inv : Inv nm12 := by
  refine ⟨⟨nm_wf, by decide +kernel, ?_, by decide +kernel, ⟨fun t _ _ => rfl, rfl, rfl⟩, Or.inl (by decide +kernel), Or.inl (by decide +kernel), Or.inl (by decide +kernel), by decide +kernel, ⟨fun t _ _ => rfl, rfl, rfl⟩, ?_⟩, ⟨Or.inl (by decide +kernel), Or.inl (by decide +kernel), Or.inl (by decide +kernel)⟩, nm_cf, by decide +kernel, ?_⟩
  · intro j h0 h1
    have e : nm12 3 0 = 0 := by decide +kernel
    omega
  · intro m h0 h1
    left
    rcases (show m = 1 ∨ m = 2 ∨ m = 3 ∨ m = 4 ∨ m = 5 ∨ m = 6 by omega) with rfl | rfl | rfl | rfl | rfl | rfl <;> decide +kernel
  · intro j h0 h1
    have e : nm12 3 0 = 0 := by decide +kernel
    omega
