set_option maxRecDepth 100000 in
theorem y_rd : ph_r hY1 13 0 = some 14 ∧ ph_r hY1 13 1 = some 18 := by decide +kernel
theorem REL_Y3 : REL3 hY1 a_zero := ⟨REL_Y2, 14, Or.inl rfl, y_rd.1, y_rd.2⟩
