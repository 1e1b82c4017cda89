/-! both sides at the start -/
theorem rl_s9 (xs : Nat → Int32) : RQ9 (s9 xs) := by
  have e : ∀ k j : Nat, k ≤ 130 → s9 xs k j = s9_i k j := fun k j hk => by rw [s9_row hk]
  have z : ∀ k j : Nat, k ≤ 130 → s9_i k j = 0 → s9 xs k j = 0 := fun k j hk h => (e k j hk).trans h
  have f0 := z 102 0 (by decide) (by decide +kernel)
  have f1 := z 102 1 (by decide) (by decide +kernel)
  have t1 := z 1 1 (by decide) (by decide +kernel)
  refine ⟨⟨t1.trans (z 93 2 (by decide) (by decide +kernel)).symm, by rw [t1]; exact Int.le_refl 0, by rw [t1]; decide, fun j hj => by rw [t1] at hj; omega⟩, ⟨?_, ?_, ?_, Or.inr ⟨z 93 22 (by decide) (by decide +kernel), (e 3 14 (by decide)).trans (by decide +kernel), f0, f1, z 95 2 (by decide) (by decide +kernel)⟩⟩, ⟨(z 18 16 (by decide) (by decide +kernel)).trans f0.symm, Or.inl f0, fun h => ?_⟩, ⟨(z 33 16 (by decide) (by decide +kernel)).trans f1.symm, Or.inl f1, fun h => ?_⟩⟩
  · exact (z 3 11 (by decide) (by decide +kernel)).trans (z 95 0 (by decide) (by decide +kernel)).symm
  · exact (z 3 12 (by decide) (by decide +kernel)).trans (z 95 1 (by decide) (by decide +kernel)).symm
  · exact (z 3 13 (by decide) (by decide +kernel)).trans (z 95 2 (by decide) (by decide +kernel)).symm
  · rw [f0] at h
    exact absurd h (by decide)
  · rw [f1] at h
    exact absurd h (by decide)
theorem s9_no {k : Nat} (h : s9_x.all (fun q => !(q.1.1.beq k)) = true) (j : Nat) : s9_i k j = 0 := by
  have e : s9_x.find? (fun q => q.1.1.beq k && q.1.2.beq j) = none := List.find?_eq_none.mpr (fun q hq c => by
    have h1 := List.all_eq_true.mp h q hq
    rw [Bool.and_eq_true] at c
    rw [c.1] at h1
    cases h1)
  unfold s9_i
  rw [e]
/-- nothing has been told yet -/
def sA : ab_SG := fun k j => if k = 49 ∧ j = 14 then 9 else 0
theorem sA_0 {k j : Nat} (h : ¬ (k = 49 ∧ j = 14)) : sA k j = 0 := if_neg h
theorem sA_9 : sA 49 14 = 9 := if_pos ⟨rfl, rfl⟩
theorem rx_s9 (xs : Nat → Int32) : RQ (s9 xs) := by
  have e : ∀ k j : Nat, k ≤ 130 → s9 xs k j = s9_i k j := fun k j hk => by rw [s9_row hk]
  have z : ∀ k : Nat, k ≤ 130 → s9_x.all (fun q => !(q.1.1.beq k)) = true → ∀ j : Nat, s9 xs k j = 0 := fun k hk h j => (e k j hk).trans (s9_no h j)
  have f0 : s9 xs 102 0 = 0 := z 102 (by decide) (by decide +kernel) 0
  have f1 : s9 xs 102 1 = 0 := z 102 (by decide) (by decide +kernel) 1
  have z95 : ∀ j : Nat, s9 xs 95 j = 0 := z 95 (by decide) (by decide +kernel)
  have n0 : ∀ x : Nat, ¬ (x : Int) < 0 := fun x h => by omega
  have a11 : sA 49 11 = 0 := sA_0 (by decide)
  have a12 : sA 49 12 = 0 := sA_0 (by decide)
  have a13 : sA 49 13 = 0 := sA_0 (by decide)
  have l0 : ∀ j : Nat, j ≠ 3 → mlN (s9 xs) j = 0 := fun j hj => by
    unfold mlN
    rw [if_neg (fun y => hj y.2)]
    exact z95 j
  have d0 : fw_d 0 = 0 := fw_d_id (by decide) (by decide)
  refine ⟨rl_s9 xs, ⟨sA, ⟨?_, ?_, ?_, fun j _ => ?_, fun j _ => ?_, fun j _ => ?_, fun j _ => ?_, ?_⟩, ⟨fun x hx => ?_, fun c hx => ?_, fun j _ => ?_, fun j _ => ?_, ?_⟩, ⟨?_, ?_, ?_, ?_, fun x hx => ?_, fun c hx => ?_, fun j _ => ?_, fun j _ => ?_, fun p hx => ?_, fun w x y hw hx hy => ?_⟩, ⟨?_, ?_, ?_, ?_, fun x hx => ?_, fun c hx => ?_, fun j _ => ?_, fun j hx => ?_, fun j hx => ?_, fun j hx => ?_, fun j hx => ?_⟩⟩, fun h => ?_, fun h => ?_, jr_0 (z 85 (by decide) (by decide +kernel) 1) ((e 93 24 (by decide)).trans (by decide +kernel))⟩
  · rw [a11]; decide
  · rw [a12]; decide
  · rw [a13]; decide
  · rw [sA_0 (fun y => absurd y.1 (by decide))]; exact d0
  · rw [sA_0 (fun y => absurd y.1 (by decide))]; exact d0
  · rw [sA_0 (fun y => absurd y.1 (by decide))]; exact d0
  · rw [sA_0 (fun y => absurd y.1 (by decide))]; decide
  · rw [sA_0 (fun y => absurd y.1 (by decide))]; decide
  · rw [a11] at hx; exact absurd hx (n0 x)
  · rw [a12] at hx; exact absurd hx (n0 c)
  · rw [sA_0 (fun y => absurd y.1 (by decide))]; decide
  · rw [sA_0 (fun y => absurd y.1 (by decide))]; decide
  · rw [sA_9]; decide
  · rw [a11]; exact (e 3 11 (by decide)).trans (by decide +kernel)
  · rw [a12]; exact (e 3 12 (by decide)).trans (by decide +kernel)
  · rw [a13]; exact (e 3 13 (by decide)).trans (by decide +kernel)
  · rw [sA_9]; exact (e 3 14 (by decide)).trans (by decide +kernel)
  · rw [a11] at hx; exact absurd hx (n0 x)
  · rw [a12] at hx; exact absurd hx (n0 c)
  · rw [sA_0 (fun y => absurd y.1 (by decide))]; exact z 9 (by decide) (by decide +kernel) j
  · rw [sA_0 (fun y => absurd y.1 (by decide))]; exact z 10 (by decide) (by decide +kernel) j
  · rw [a13] at hx; exact absurd hx (n0 p)
  · rw [a11] at hx; exact absurd hx (n0 x)
  · rw [a11]; exact l0 0 (by decide)
  · rw [a12]; exact l0 1 (by decide)
  · rw [a13]; exact l0 2 (by decide)
  · rw [sA_9]
    unfold mlN
    exact if_pos ⟨(e 93 22 (by decide)).trans (by decide +kernel), rfl⟩
  · rw [a11] at hx; exact absurd hx (n0 x)
  · rw [a12] at hx; exact absurd hx (n0 c)
  · rw [sA_0 (fun y => absurd y.1 (by decide))]; exact l0 _ (by omega)
  · rw [a13] at hx; exact absurd hx (n0 j)
  · rw [a11] at hx; exact absurd hx (n0 j)
  · rw [a12] at hx; exact absurd hx (n0 j)
  · rw [a13] at hx; exact absurd hx (n0 j)
  · rw [f0] at h
    exact absurd h (by decide)
  · rw [f1] at h
    exact absurd h (by decide)
