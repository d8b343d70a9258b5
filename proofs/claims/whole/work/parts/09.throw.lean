theorem xat_1 : ∀ w ∈ Bundle.ownAtoms "StandInMill" 204 xI xUp, w ∈ XW ∨ w = .isRef (.static xT "UNASSIGNED_STACK" xSte) ∨ w = .isRef (.static xT "SUPPRESSED_SENTINEL" xLs) ∨ w = .laysStatic xT "UNASSIGNED_STACK" xSte ∨ w = .laysStatic xT "SUPPRESSED_SENTINEL" xLs := by
  intro w hw
  by_cases h : tok w = true
  · exact Or.inl (List.mem_filter.mpr ⟨List.mem_append_left _ hw, h⟩)
  · have h2 : ((Bundle.ownAtoms "StandInMill" 204 xI xUp).filter (fun w => !tok w)).all (fun w => decide (w = .isRef (.static xT "UNASSIGNED_STACK" xSte) ∨ w = .isRef (.static xT "SUPPRESSED_SENTINEL" xLs) ∨ w = .laysStatic xT "UNASSIGNED_STACK" xSte ∨ w = .laysStatic xT "SUPPRESSED_SENTINEL" xLs)) = true := by decide +kernel
    have h3 : w ∈ (Bundle.ownAtoms "StandInMill" 204 xI xUp).filter (fun w => !tok w) := List.mem_filter.mpr ⟨hw, by simpa using h⟩
    have h3 := of_decide_eq_true (List.all_eq_true.mp h2 w h3)
    exact Or.inr h3
theorem xat_2 : ∀ w ∈ Bundle.ownAtoms "StandInMill" 225 xA xUp, w ∈ XW ∨ w = .isRef (.static xT "UNASSIGNED_STACK" xSte) ∨ w = .isRef (.static xT "SUPPRESSED_SENTINEL" xLs) ∨ w = .laysStatic xT "UNASSIGNED_STACK" xSte ∨ w = .laysStatic xT "SUPPRESSED_SENTINEL" xLs := by
  intro w hw
  by_cases h : tok w = true
  · exact Or.inl (List.mem_filter.mpr ⟨List.mem_append_right _ hw, h⟩)
  · have h2 : ((Bundle.ownAtoms "StandInMill" 225 xA xUp).filter (fun w => !tok w)).all (fun w => decide (w = .isRef (.static xT "UNASSIGNED_STACK" xSte) ∨ w = .isRef (.static xT "SUPPRESSED_SENTINEL" xLs) ∨ w = .laysStatic xT "UNASSIGNED_STACK" xSte ∨ w = .laysStatic xT "SUPPRESSED_SENTINEL" xLs)) = true := by decide +kernel
    have h3 : w ∈ (Bundle.ownAtoms "StandInMill" 225 xA xUp).filter (fun w => !tok w) := List.mem_filter.mpr ⟨hw, by simpa using h⟩
    have h3 := of_decide_eq_true (List.all_eq_true.mp h2 w h3)
    exact Or.inr h3
theorem xs_202 : ((202 : Nat), "no such loader, or no list of interfaces") ∈ XS := List.mem_of_getElem? (i := 0) rfl
theorem xs_223 : ((223 : Nat), "a fault") ∈ XS := List.mem_of_getElem? (i := 1) rfl
theorem xs_287 : ((287 : Nat), "no such class or method") ∈ XS := List.mem_of_getElem? (i := 2) rfl
theorem xs_293 : ((293 : Nat), "a parameter is no such object") ∈ XS := List.mem_of_getElem? (i := 3) rfl
