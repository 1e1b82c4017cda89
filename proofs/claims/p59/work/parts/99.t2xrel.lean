/-! both sides at the start -/
theorem rl_s9 (xs : Nat → Int32) : RQ9 (s9 xs) := by
  have e : ∀ k j : Nat, k ≤ 130 → s9 xs k j = s9_i k j := fun k j hk => by rw [s9_row hk]
  have z : ∀ k j : Nat, k ≤ 130 → s9_i k j = 0 → s9 xs k j = 0 := fun k j hk h => (e k j hk).trans h
  have f0 := z 102 0 (by decide) (by decide +kernel)
  have f1 := z 102 1 (by decide) (by decide +kernel)
  have t1 := z 1 1 (by decide) (by decide +kernel)
  refine ⟨⟨t1.trans (z 93 2 (by decide) (by decide +kernel)).symm, by rw [t1]; exact Int.le_refl 0, by rw [t1]; decide, fun j hj => by rw [t1] at hj; omega⟩, ⟨?_, ?_, ?_, Or.inr ⟨z 93 22 (by decide) (by decide +kernel), (e 3 14 (by decide)).trans (by decide +kernel), f0, f1⟩⟩, ⟨(z 18 16 (by decide) (by decide +kernel)).trans f0.symm, Or.inl f0, fun h => ?_⟩, ⟨(z 33 16 (by decide) (by decide +kernel)).trans f1.symm, Or.inl f1, fun h => ?_⟩⟩
  · exact (z 3 11 (by decide) (by decide +kernel)).trans (z 95 0 (by decide) (by decide +kernel)).symm
  · exact (z 3 12 (by decide) (by decide +kernel)).trans (z 95 1 (by decide) (by decide +kernel)).symm
  · exact (z 3 13 (by decide) (by decide +kernel)).trans (z 95 2 (by decide) (by decide +kernel)).symm
  · rw [f0] at h
    exact absurd h (by decide)
  · rw [f1] at h
    exact absurd h (by decide)
