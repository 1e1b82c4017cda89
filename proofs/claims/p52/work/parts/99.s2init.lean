/-! the world's numbers at the start -/
def s9_x : List ((Nat × Nat) × Int) := [((1, 7), -1), ((3, 14), 9), ((18, 14), 9), ((33, 14), 9), ((49, 14), 9), ((93, 51), -1), ((117, 0), -1), ((117, 1), -1), ((117, 2), -1), ((117, 3), -1), ((117, 4), -1), ((119, 0), -1), ((119, 1), -1), ((119, 2), -1), ((119, 3), -1), ((119, 4), -1)]
def s9_i (k j : Nat) : Int := match s9_x.find? (fun q => q.1.1.beq k && q.1.2.beq j) with
  | some q => q.2
  | none => 0
def s9_p (k : Nat) : Nat := cond (k.beq 131) 9 (k - 131)
/-- the start's numbers, the script's among them -/
def s9 (xs : Nat → Int32) : ab_SG := fun k j => cond (k.ble 130) (s9_i k j) (cond (k.ble 139) ((nn_pop (s9_p k) j : Nat) : Int) (cond (k.beq 140) (xs j).toInt 0))
def s9_e (k : Nat) (e : Nat × Nat × Int × Int) : Bool := (decide (e.2.2.1 ≤ 0) && decide (0 ≤ e.2.2.2)) && s9_x.all (fun q => !(q.1.1.beq k) || !(e.1.ble q.1.2 && (q.1.2 + 1).ble e.2.1) || (decide (e.2.2.1 ≤ q.2) && decide (q.2 ≤ e.2.2.2)))
theorem s9_e_ok {k j : Nat} {e : Nat × Nat × Int × Int} (h : s9_e k e = true) (h1 : e.1 ≤ j) (h2 : j < e.2.1) : e.2.2.1 ≤ s9_i k j ∧ s9_i k j ≤ e.2.2.2 := by
  unfold s9_e at h
  rw [Bool.and_eq_true, Bool.and_eq_true, decide_eq_true_eq, decide_eq_true_eq] at h
  unfold s9_i
  split
  · rename_i q hq
    have hm := List.mem_of_find?_eq_some hq
    have hp := List.find?_some hq
    rw [Bool.and_eq_true] at hp
    have e1 := Nat.eq_of_beq_eq_true hp.1
    have e2 := Nat.eq_of_beq_eq_true hp.2
    have hb := List.all_eq_true.mp h.2 q hm
    rw [Bool.or_eq_true, Bool.or_eq_true, hp.1, e2, Nat.ble_eq_true_of_le h1, Nat.ble_eq_true_of_le h2, Bool.and_eq_true, decide_eq_true_eq, decide_eq_true_eq] at hb
    rcases hb with (hb | hb) | hb
    · cases hb
    · cases hb
    · exact hb
  · exact h.1
def s9_rows : Nat → List ab_RW → Bool
  | _, [] => true
  | k, r :: l => r.all (fun z => z.2.2.all (s9_e k)) && s9_rows (k + 1) l
theorem s9_rows_ok : ∀ (l : List ab_RW) (k0 : Nat), s9_rows k0 l = true → ∀ (i : Nat) (row : ab_RW), l[i]? = some row → ∀ z ∈ row, ∀ e ∈ z.2.2, s9_e (k0 + i) e = true := by
  intro l
  induction l with
  | nil => intro k0 _ i row h; cases h
  | cons r l ih =>
    intro k0 h i row hr z hz e he
    unfold s9_rows at h
    rw [Bool.and_eq_true] at h
    cases i with
    | zero =>
      cases hr
      exact List.all_eq_true.mp (List.all_eq_true.mp h.1 z hz) e he
    | succ i =>
      have := ih (k0 + 1) h.2 i row hr z hz e he
      rw [show k0 + (i + 1) = k0 + 1 + i by omega]
      exact this
theorem s9_low : s9_rows 0 (nn_T.take 131) = true := by decide +kernel
theorem s9_pop {x : Nat} {xs : Nat → Int32} {k : Nat} (hk : s9_p k = x) (h1 : 131 ≤ k) (h2 : k ≤ 139) : ∀ z ∈ nn_popR x, ∀ e ∈ z.2.2, ∀ j : Nat, e.1 ≤ j → j < e.2.1 → e.2.2.1 ≤ s9 xs k j ∧ s9 xs k j ≤ e.2.2.2 := by
  intro z hz e he j j1 j2
  obtain ⟨i, -, rfl⟩ := List.mem_map.mp hz
  obtain ⟨q, -, rfl⟩ := List.mem_map.mp he
  have hj : j = 8 * i + q := by
    have a1 : 8 * i + q ≤ j := j1
    have a2 : j < 8 * i + q + 1 := j2
    omega
  subst hj
  have hv : s9 xs k (8 * i + q) = ((nn_pop x (8 * i + q) : Nat) : Int) := by
    unfold s9
    rw [show k.ble 130 = false from Bool.eq_false_iff.mpr (fun h => by have := Nat.le_of_ble_eq_true h; omega), show k.ble 139 = true from Nat.ble_eq_true_of_le h2, hk]
    rfl
  rw [hv]
  exact ⟨Int.le_refl _, Int.le_refl _⟩
theorem s9_len : nn_T.length = 140 := by decide +kernel
theorem s9_R (xs : Nat → Int32) : ab_okR nn_T (s9 xs) := by
  intro k row hrow z hz e he j _ _ g1 g2
  have hlt : k < 140 := by rw [← s9_len]; exact (List.getElem?_eq_some_iff.mp hrow).1
  by_cases hk : k < 131
  · have h1 : (nn_T.take 131)[k]? = some row := by rw [List.getElem?_take, if_pos hk]; exact hrow
    have h2 := s9_rows_ok _ 0 s9_low k row h1 z hz e he
    rw [Nat.zero_add] at h2
    have h3 : s9 xs k j = s9_i k j := by
      unfold s9
      rw [show k.ble 130 = true from Nat.ble_eq_true_of_le (by omega)]
      rfl
    rw [h3]
    exact s9_e_ok h2 g1 g2
  · have : k = 131 ∨ k = 132 ∨ k = 133 ∨ k = 134 ∨ k = 135 ∨ k = 136 ∨ k = 137 ∨ k = 138 ∨ k = 139 := by omega
    rcases this with rfl | rfl | rfl | rfl | rfl | rfl | rfl | rfl | rfl
    · cases hrow; exact s9_pop (x := 9) rfl (by decide) (by decide) z hz e he j g1 g2
    · cases hrow; exact s9_pop (x := 1) rfl (by decide) (by decide) z hz e he j g1 g2
    · cases hrow; exact s9_pop (x := 2) rfl (by decide) (by decide) z hz e he j g1 g2
    · cases hrow; exact s9_pop (x := 3) rfl (by decide) (by decide) z hz e he j g1 g2
    · cases hrow; exact s9_pop (x := 4) rfl (by decide) (by decide) z hz e he j g1 g2
    · cases hrow; exact s9_pop (x := 5) rfl (by decide) (by decide) z hz e he j g1 g2
    · cases hrow; exact s9_pop (x := 6) rfl (by decide) (by decide) z hz e he j g1 g2
    · cases hrow; exact s9_pop (x := 7) rfl (by decide) (by decide) z hz e he j g1 g2
    · cases hrow; exact s9_pop (x := 8) rfl (by decide) (by decide) z hz e he j g1 g2
theorem s9_same {xs : Nat → Int32} {p : Nat × Nat} (h : p.1.beq 140 = false) : ab_pv (s9 xs) p = ab_pv (s9 (fun _ => 0)) p := by
  unfold ab_pv s9
  rw [h]
  rfl
def s9_C : Bool := nn_C.all (fun row => row.all (fun z => z.2.2.all (fun q => q.any (fun a => decide (ab_pv (s9 (fun _ => 0)) a.1 - ab_pv (s9 (fun _ => 0)) a.2.1 ≤ a.2.2) && (!(a.1.1.beq 140) && !(a.2.1.1.beq 140))))))
theorem s9_C_ok : s9_C = true := by decide +kernel
theorem s9_okC (xs : Nat → Int32) (hw : ab_wfC nn_C) : ab_okC nn_C (s9 xs) := by
  refine ⟨hw, fun k row hrow z hz q hq => ?_⟩
  have h := List.all_eq_true.mp (List.all_eq_true.mp (List.all_eq_true.mp s9_C_ok row (List.mem_of_getElem? hrow)) z hz) q hq
  obtain ⟨a, ha, hb⟩ := List.any_eq_true.mp h
  rw [Bool.and_eq_true, Bool.and_eq_true, decide_eq_true_eq, Bool.not_eq_true', Bool.not_eq_true'] at hb
  refine ⟨a, ha, ?_⟩
  unfold ab_okA
  rw [s9_same hb.2.1, s9_same hb.2.2]
  exact hb.1
/-- every clause stands at each place that it speaks of -/
def s9_in (C : ab_CT) (q : List ab_AT) (p : Nat × Nat) : Bool := p.1.beq 1000 || (match C[p.1]? with
  | some r => r.any (fun z => z.1.ble p.2 && (p.2 + 1).ble z.2.1 && z.2.2.any (fun q2 => decide (q2 = q)))
  | none => false)
theorem s9_in_ok {C : ab_CT} {q : List ab_AT} {p : Nat × Nat} (h : s9_in C q p = true) : p.1 = 1000 ∨ ab_inC C p q := by
  unfold s9_in at h
  rw [Bool.or_eq_true] at h
  rcases h with h | h
  · exact Or.inl (Nat.eq_of_beq_eq_true h)
  · refine Or.inr ?_
    split at h
    · rename_i r hr
      obtain ⟨z, hz, hb⟩ := List.any_eq_true.mp h
      rw [Bool.and_eq_true, Bool.and_eq_true] at hb
      obtain ⟨q2, hq2, e⟩ := List.any_eq_true.mp hb.2
      have e := of_decide_eq_true e
      subst e
      exact ⟨r, hr, z, hz, Nat.le_of_ble_eq_true hb.1.1, Nat.le_of_ble_eq_true hb.1.2, hq2⟩
    · cases h
theorem s9_wf0 : nn_C.all (fun row => row.all (fun z => z.2.2.all (fun q => q.all (fun a => s9_in nn_C q a.1 && s9_in nn_C q a.2.1)))) = true := by decide +kernel
theorem s9_wf : ab_wfC nn_C := by
  intro k row hrow z hz q hq a ha
  have h := List.all_eq_true.mp (List.all_eq_true.mp (List.all_eq_true.mp (List.all_eq_true.mp s9_wf0 row (List.mem_of_getElem? hrow)) z hz) q hq) a ha
  rw [Bool.and_eq_true] at h
  exact ⟨s9_in_ok h.1, s9_in_ok h.2⟩
theorem s9_okC2 (xs : Nat → Int32) : ab_okC nn_C (s9 xs) := s9_okC xs s9_wf
