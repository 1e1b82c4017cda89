/-! the world's numbers behind a copy: each place's number is another's; ranges and clauses by renaming -/
def nc_p (a b : Nat × Nat) : Bool := a.1.beq b.1 && a.2.beq b.2
theorem nc_p_ok {a b : Nat × Nat} (h : nc_p a b = true) : a = b := by
  unfold nc_p at h
  rw [Bool.and_eq_true] at h
  obtain ⟨a1, a2⟩ := a
  obtain ⟨b1, b2⟩ := b
  have h1 : a1 = b1 := ab_beq h.1
  have h2 : a2 = b2 := ab_beq h.2
  rw [h1, h2]
/-- an atom x gives one of r -/
def nc_has (r : List ab_AT) (x : ab_AT) : Bool := r.any (fun y => nc_p y.1 x.1 && nc_p y.2.1 x.2.1 && ab_le x.2.2 y.2.2)
theorem nc_has_ok {r : List ab_AT} {x : ab_AT} {σ : ab_SG} (h : nc_has r x = true) (hx : ab_okA σ x) : ∃ a ∈ r, ab_okA σ a := by
  obtain ⟨y, hy, h2⟩ := List.any_eq_true.mp h
  rw [Bool.and_eq_true, Bool.and_eq_true] at h2
  refine ⟨y, hy, ?_⟩
  unfold ab_okA at hx ⊢
  rw [nc_p_ok h2.1.1, nc_p_ok h2.1.2]
  have := ab_le_iff.mp h2.2
  omega
def nc_imp (fs r : List ab_AT) (x : ab_AT) : Bool := nc_has r x || fs.any (fun f => nc_p f.2.1 x.1 && nc_has r (f.1, x.2.1, x.2.2 + f.2.2))
theorem nc_imp_ok {fs r : List ab_AT} {x : ab_AT} {σ : ab_SG} (hf : ∀ f ∈ fs, ab_okA σ f) (h : nc_imp fs r x = true) (hx : ab_okA σ x) : ∃ a ∈ r, ab_okA σ a := by
  unfold nc_imp at h
  rw [Bool.or_eq_true] at h
  rcases h with h | h
  · exact nc_has_ok h hx
  · obtain ⟨f, h1, h2⟩ := List.any_eq_true.mp h
    rw [Bool.and_eq_true] at h2
    refine nc_has_ok h2.2 ?_
    have g := hf f h1
    have e := nc_p_ok h2.1
    unfold ab_okA at g hx ⊢
    rw [← e] at hx
    show ab_pv σ f.1 - ab_pv σ x.2.1 ≤ x.2.2 + f.2.2
    omega
/-- a clause that the place p stands in gives r -/
def nc_row (C : ab_CT) (fs r : List ab_AT) (p : Nat × Nat) : Bool := match C[p.1]? with
  | some row => row.any (fun z => z.1.ble p.2 && (p.2 + 1).ble z.2.1 && z.2.2.any (fun q => q.all (nc_imp fs r)))
  | none => false
def nc_q (C : ab_CT) (fs r : List ab_AT) : Bool :=
  r.any (fun a => (nc_p a.1 a.2.1 && ab_le 0 a.2.2) || nc_has [a] a && fs.any (fun f => nc_has [a] f)) || r.any (fun a => nc_row C fs r a.1 || nc_row C fs r a.2.1)
theorem nc_q_ok {C : ab_CT} {fs r : List ab_AT} {σ : ab_SG} (hC : ab_okC C σ) (hf : ∀ f ∈ fs, ab_okA σ f) (h : nc_q C fs r = true) : ∃ a ∈ r, ab_okA σ a := by
  have key : ∀ p, nc_row C fs r p = true → ∃ a ∈ r, ab_okA σ a := by
    intro p hp
    unfold nc_row at hp
    split at hp
    · rename_i row hrow
      obtain ⟨z, hz, h2⟩ := List.any_eq_true.mp hp
      rw [Bool.and_eq_true] at h2
      obtain ⟨q, hq, h3⟩ := List.any_eq_true.mp h2.2
      obtain ⟨a, ha, hok⟩ := hC.2 _ row hrow z hz q hq
      exact nc_imp_ok hf (List.all_eq_true.mp h3 a ha) hok
    · cases hp
  unfold nc_q at h
  rw [Bool.or_eq_true] at h
  rcases h with h | h
  · obtain ⟨a, ha, h2⟩ := List.any_eq_true.mp h
    rw [Bool.or_eq_true] at h2
    rcases h2 with h2 | h2
    · rw [Bool.and_eq_true] at h2
      refine ⟨a, ha, ?_⟩
      unfold ab_okA
      rw [nc_p_ok h2.1]
      have := ab_le_iff.mp h2.2
      omega
    · rw [Bool.and_eq_true] at h2
      obtain ⟨f, hf1, hf2⟩ := List.any_eq_true.mp h2.2
      obtain ⟨b, hb1, hb2⟩ := nc_has_ok hf2 (hf f hf1)
      rw [List.mem_singleton.mp hb1] at hb2
      exact ⟨a, ha, hb2⟩
  · obtain ⟨a, -, h2⟩ := List.any_eq_true.mp h
    rw [Bool.or_eq_true] at h2
    rcases h2 with h2 | h2
    · exact key _ h2
    · exact key _ h2
/-- all clauses, renamed -/
def nc_ckC (C : ab_CT) (fs : List ab_AT) (rn : Nat × Nat → Nat × Nat) : Bool := C.all (fun row => row.all (fun z => z.2.2.all (fun q => q.all (fun a => nc_p (rn a.1) a.1 && nc_p (rn a.2.1) a.2.1) || nc_q C fs (q.map (fun a => (rn a.1, rn a.2.1, a.2.2))))))
theorem nc_C {C : ab_CT} {fs : List ab_AT} {rn : Nat × Nat → Nat × Nat} {σ σ' : ab_SG} (hC : ab_okC C σ) (hf : ∀ f ∈ fs, ab_okA σ f) (hv : ∀ p, ab_pv σ' p = ab_pv σ (rn p)) (h : nc_ckC C fs rn = true) : ab_okC C σ' := by
  refine ⟨hC.1, fun k row hrow z hz q hq => ?_⟩
  have h1 := List.all_eq_true.mp (List.all_eq_true.mp (List.all_eq_true.mp h row (List.mem_of_getElem? hrow)) z hz) q hq
  rw [Bool.or_eq_true] at h1
  have tr : ∀ a : ab_AT, ab_okA σ (rn a.1, rn a.2.1, a.2.2) → ab_okA σ' a := by
    intro a ha
    unfold ab_okA at ha ⊢
    rw [hv, hv]
    exact ha
  rcases h1 with h1 | h1
  · obtain ⟨a, ha, hok⟩ := hC.2 k row hrow z hz q hq
    have h2 := List.all_eq_true.mp h1 a ha
    rw [Bool.and_eq_true] at h2
    refine ⟨a, ha, tr a ?_⟩
    rw [nc_p_ok h2.1, nc_p_ok h2.2]
    exact hok
  · obtain ⟨b, hb, hok⟩ := nc_q_ok hC hf h1
    obtain ⟨a, ha, rfl⟩ := List.mem_map.mp hb
    exact ⟨a, ha, tr a hok⟩
/-- the ranges of the cell k at the places from o on, n of them, renamed -/
def nc_rg (T : ab_RG) (p : Nat × Nat) : Option (Int × Int) := cond (p.1.beq 1000) (some (0, 0)) (ab_rdT T p.1 p.2 p.2)
def nc_ckR (T : ab_RG) (rn : Nat × Nat → Nat × Nat) (k o n : Nat) : Bool := match T[k]? with
  | some row => (List.range n).all (fun i => match nc_rg T (rn (k, o + i)) with
    | some r => row.all (fun z => (o + i + 1).ble z.1 || z.2.1.ble (o + i) || z.2.2.all (fun e => (o + i + 1).ble e.1 || e.2.1.ble (o + i) || (ab_le e.2.2.1 r.1 && ab_le r.2 e.2.2.2)))
    | none => false)
  | none => true
theorem nc_R {T : ab_RG} {rn : Nat × Nat → Nat × Nat} {σ σ' : ab_SG} {k o n : Nat} (hR : ab_okR T σ) (hk : k ≠ 1000) (hv : ∀ p, ab_pv σ' p = ab_pv σ (rn p)) (ho : ∀ a b : Nat, ¬ (a = k ∧ o ≤ b ∧ b < o + n) → σ' a b = σ a b) (h : nc_ckR T rn k o n = true) : ab_okR T σ' := by
  intro k2 row hrow z hz e he j z1 z2 g1 g2
  by_cases hc : k2 = k ∧ o ≤ j ∧ j < o + n
  · obtain ⟨rfl, c1, c2⟩ := hc
    unfold nc_ckR at h
    rw [hrow] at h
    have h1 := List.all_eq_true.mp h (j - o) (List.mem_range.mpr (by omega))
    have ej : o + (j - o) = j := by omega
    rw [ej] at h1
    have hb : k2.beq 1000 = false := by
      cases hc : k2.beq 1000 with
      | false => rfl
      | true => exact absurd (ab_beq hc) hk
    have e1 : σ' k2 j = ab_pv σ (rn (k2, j)) := by
      rw [← hv]
      unfold ab_pv
      show _ = cond (k2.beq 1000) 0 (σ' k2 j)
      rw [hb]
      rfl
    split at h1
    · rename_i r hr
      have hrr : r.1 ≤ σ' k2 j ∧ σ' k2 j ≤ r.2 := by
        rw [e1]
        unfold nc_rg at hr
        unfold ab_pv
        cases hp : (rn (k2, j)).1.beq 1000 with
        | true =>
          rw [hp] at hr
          cases hr
          exact ⟨Int.le_refl _, Int.le_refl _⟩
        | false =>
          rw [hp] at hr
          exact ab_rdT_ok hR hr (Nat.le_refl _) (Nat.le_refl _)
      have h2 := List.all_eq_true.mp h1 z hz
      rw [Bool.or_eq_true, Bool.or_eq_true] at h2
      rcases h2 with (h2 | h2) | h2
      · have := Nat.le_of_ble_eq_true h2; omega
      · have := Nat.le_of_ble_eq_true h2; omega
      · have h3 := List.all_eq_true.mp h2 e he
        rw [Bool.or_eq_true, Bool.or_eq_true, Bool.and_eq_true, ab_le_iff, ab_le_iff] at h3
        rcases h3 with (h3 | h3) | h3
        · have := Nat.le_of_ble_eq_true h3; omega
        · have := Nat.le_of_ble_eq_true h3; omega
        · omega
    · cases h1
  · rw [ho k2 j hc]
    exact hR k2 row hrow z hz e he j z1 z2 g1 g2
/-- what is known of the frame goes on with the new numbers, but for the cell k -/
theorem nc_K {T : ab_RG} {C : ab_CT} {σ0 σ σ' : ab_SG} {B : ab_BD} {F : ab_FT} {Dl : ab_DL} {M : ab_ML} {ρ : Nat → Int} {k : Nat} (h : ab_K T C σ0 B F Dl M ρ σ) (hR : ab_okR T σ') (hC : ab_okC C σ') (ho : ∀ a b : Nat, a ≠ k → σ' a b = σ a b) : ab_K T C σ0 B F (Dl.filter (fun d => !(d.1.1.beq k))) ((k, 1000000) :: M) ρ σ' := by
  obtain ⟨k1, k2, k3, k4, k5, k6, k7, k8⟩ := h
  refine ⟨k1, k2, k3, k4, ?_, hR, hC, ?_⟩
  · intro d hd
    obtain ⟨d1, d2⟩ := List.mem_filter.mp hd
    obtain ⟨g1, g2, g3⟩ := k5 d d1
    refine ⟨g1, g2, ?_⟩
    rw [ho _ _ (fun q => by rw [q, show k.beq k = true from Nat.beq_refl k] at d2; cases d2)]
    exact g3
  · intro a b hab
    have ha : a ≠ k := fun q => hab (k, 1000000) List.mem_cons_self ⟨q.symm, Or.inr rfl⟩
    rw [ho a b ha]
    exact k8 a b (fun q hq => hab q (List.mem_cons_of_mem _ hq))
/-- a part of a cell copied -/
def nc_cp (σ : ab_SG) (kd od ks os n : Nat) : ab_SG := fun a b => if a = kd ∧ od ≤ b ∧ b < od + n then σ ks (b - od + os) else σ a b
theorem nc_cp0 {σ : ab_SG} {kd od ks os : Nat} : nc_cp σ kd od ks os 0 = σ := by
  funext a b
  exact if_neg (by omega)
theorem nc_cp_src {σ : ab_SG} {kd od ks os n a b : Nat} (h : a ≠ kd) : nc_cp σ kd od ks os n a b = σ a b := if_neg (fun q => h q.1)
theorem nc_cp1 {σ : ab_SG} {kd od ks os i : Nat} : ab_ups (nc_cp σ kd od ks os i) kd (od + i) (σ ks (os + i)) = nc_cp σ kd od ks os (i + 1) := by
  funext a b
  unfold ab_ups nc_cp
  by_cases h1 : a = kd ∧ b = od + i
  · rw [if_pos h1, if_pos (by omega)]
    congr 1
    omega
  · rw [if_neg h1]
    by_cases h2 : a = kd ∧ od ≤ b ∧ b < od + i
    · rw [if_pos h2, if_pos (by omega)]
    · rw [if_neg h2, if_neg (by omega)]
def nc_rn (kd od ks os n : Nat) (p : Nat × Nat) : Nat × Nat := cond (p.1.beq kd && od.ble p.2 && (p.2 + 1).ble (od + n)) (ks, p.2 - od + os) p
theorem nc_cp_rn {σ : ab_SG} {kd od ks os n : Nat} (hk : kd ≠ 1000) (hs : ks ≠ 1000) : ∀ p, ab_pv (nc_cp σ kd od ks os n) p = ab_pv σ (nc_rn kd od ks os n p) := by
  intro p
  unfold nc_rn
  cases hc : (p.1.beq kd && od.ble p.2 && (p.2 + 1).ble (od + n)) with
  | true =>
    rw [Bool.and_eq_true, Bool.and_eq_true] at hc
    have h1 := ab_beq hc.1.1
    have h2 := Nat.le_of_ble_eq_true hc.1.2
    have h3 := Nat.le_of_ble_eq_true hc.2
    have e1 : p.1.beq 1000 = false := by
      cases hq : p.1.beq 1000 with
      | false => rfl
      | true => exact absurd (h1.symm.trans (ab_beq hq)) hk
    have e2 : ks.beq 1000 = false := by
      cases hq : ks.beq 1000 with
      | false => rfl
      | true => exact absurd (ab_beq hq) hs
    unfold ab_pv
    show cond (p.1.beq 1000) 0 (nc_cp σ kd od ks os n p.1 p.2) = cond (ks.beq 1000) 0 (σ ks (p.2 - od + os))
    rw [e1, e2]
    exact if_pos ⟨h1, h2, by omega⟩
  | false =>
    unfold ab_pv
    show cond (p.1.beq 1000) 0 (nc_cp σ kd od ks os n p.1 p.2) = cond (p.1.beq 1000) 0 (σ p.1 p.2)
    congr 1
    refine if_neg (fun q => ?_)
    rw [show p.1.beq kd = true by rw [q.1]; exact Nat.beq_refl kd, Nat.ble_eq_true_of_le q.2.1, Nat.ble_eq_true_of_le (show p.2 + 1 ≤ od + n by omega)] at hc
    cases hc
theorem nc_le {a b : Nat} (ha : a < 2 ^ 31) (hb : b < 2 ^ 31) : (Int32.ofInt (a : Int) ≤ Int32.ofInt (b : Int)) ↔ a ≤ b := by
  rw [Int32.le_iff_toInt_le, Int32.toInt_ofInt_of_le (by omega) (by omega), Int32.toInt_ofInt_of_le (by omega) (by omega)]
  omega
def nl_fs : List (Nat × Nat) := match nn_sh[93]? with
  | some (Sum.inl o) => o.2
  | _ => []
theorem nl_sh : nn_sh[93]? = some (Sum.inl (11, nl_fs)) := rfl
