/-! THE FIRST MEMORIES -/
theorem sim_fresh : Sim (i_X8_init_0 zM) (i_X9_init_0 zM) := by
  refine ⟨⟨?_, ?_, ?_, ?_, ?_, ?_⟩, ⟨by decide +kernel, Or.inl (by decide +kernel)⟩, by decide +kernel, ?_, ⟨0, by decide, by decide +kernel, by decide +kernel, fun k hk => by omega⟩, by decide +kernel, by decide +kernel⟩
  · unfold MR; decide +kernel
  · exact ⟨⟨0, by decide, by decide +kernel⟩, ⟨0, by decide, by decide +kernel⟩, ⟨0, by decide, by decide +kernel⟩, by decide +kernel, by decide +kernel, by decide +kernel, by decide +kernel, by decide +kernel⟩
  · exact ⟨⟨0, by decide, by decide +kernel, by decide +kernel⟩, by decide +kernel⟩
  · exact ⟨by decide +kernel, ⟨0, by decide, by decide +kernel, by decide +kernel⟩, by decide +kernel⟩
  · exact ⟨0, by decide, by decide +kernel, by decide +kernel, fun k hk => by omega, Or.inl rfl⟩
  · exact ⟨0, by decide, by decide +kernel, by decide +kernel, fun k hk => by omega, Or.inl rfl⟩
  · intro s hs
    rcases (show s = 0 ∨ s = 1 ∨ s = 2 ∨ s = 3 by omega) with rfl | rfl | rfl | rfl
    · exact ⟨by decide +kernel, Or.inl (by decide +kernel), ⟨0, by decide, by decide +kernel, by decide +kernel⟩, by decide +kernel⟩
    · exact ⟨by decide +kernel, Or.inl (by decide +kernel), ⟨0, by decide, by decide +kernel, by decide +kernel⟩, by decide +kernel⟩
    · exact ⟨by decide +kernel, Or.inl (by decide +kernel), ⟨0, by decide, by decide +kernel, by decide +kernel⟩, by decide +kernel⟩
    · exact ⟨by decide +kernel, Or.inl (by decide +kernel), ⟨0, by decide, by decide +kernel, by decide +kernel⟩, by decide +kernel⟩
