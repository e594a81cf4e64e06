/-! the first memory -/
theorem f_118 : ∀ i, i < 7 → M0.1 118 i = lawsF i := by decide +kernel
theorem f_126 : ∀ j, j < 43 → M0.1 126 j = wdF j := by decide +kernel
theorem f_4 : ∀ k, k < 8 → M0.1 4 k = nI 0 ∧ M0.1 122 k = nI 0 ∧ M0.1 120 k = 0 ∧ M0.1 3 k = -1 := by decide +kernel
theorem f_1 : ∀ k, k < 7 → M0.1 1 k = M0.1 106 (k + 1) := by decide +kernel
theorem J0 : J 0 0 0 M0 M0 := by
  refine ⟨⟨rfl, rfl, by omega, ⟨fun t _ j hj => absurd hj (by omega), fun q hq => absurd hq (by omega), fun q hq => absurd hq (by omega), fun q hq => absurd hq (by omega), fun p q hp => absurd hp (by omega), fun q hq => absurd hq (by omega)⟩, rfl, rfl, rfl, rfl, ⟨0, by omega, rfl⟩, ⟨0, by omega, rfl⟩⟩, ⟨rfl, rfl, by omega, ⟨fun k hk => absurd hk (by omega), fun i hi => ?_, rfl, Or.inl rfl⟩, f_118⟩, ⟨rfl, rfl, by omega, fun q hq => absurd hq (by omega)⟩, fun k hk => ?_, ⟨f_1, rfl⟩, ⟨0, by omega, rfl, rfl, fun i hi => absurd hi (by omega)⟩, Or.inl ⟨rfl, rfl⟩, ⟨rfl, f_126⟩⟩
  · show va_cpy lawsF (fun _ => 0) 0 0 7 i = lawsF i
    exact cpy_at hi
  · obtain ⟨h1, h2, h3, h4⟩ := f_4 k hk
    exact ⟨⟨0, by omega, h1, h2⟩, Or.inl ⟨h3, h4⟩, fun i hi => rfl⟩
