section
/-! the world's numbers behind a copy: each place's number is another's; ranges and clauses by renaming -/
def nc_p (a b : Nat × Nat) : Bool := a.1.beq b.1 && a.2.beq b.2
theorem nc_p_ok {a b : Nat × Nat} (h : nc_p a b = true) : a = b := by
  unfold nc_p at h
  rw [Bool.and_eq_true] at h
  obtain ⟨a1, a2⟩ := a
  obtain ⟨b1, b2⟩ := b
  have h1 : a1 = b1 := ab_beq h.1
  have h2 : a2 = b2 := ab_beq h.2
  rw [h1, h2]
/-- an atom x gives one of r -/
def nc_has (r : List ab_AT) (x : ab_AT) : Bool := r.any (fun y => nc_p y.1 x.1 && nc_p y.2.1 x.2.1 && ab_le x.2.2 y.2.2)
theorem nc_has_ok {r : List ab_AT} {x : ab_AT} {σ : ab_SG} (h : nc_has r x = true) (hx : ab_okA σ x) : ∃ a ∈ r, ab_okA σ a := by
  obtain ⟨y, hy, h2⟩ := List.any_eq_true.mp h
  rw [Bool.and_eq_true, Bool.and_eq_true] at h2
  refine ⟨y, hy, ?_⟩
  unfold ab_okA at hx ⊢
  rw [nc_p_ok h2.1.1, nc_p_ok h2.1.2]
  have := ab_le_iff.mp h2.2
  omega
def nc_imp (fs r : List ab_AT) (x : ab_AT) : Bool := nc_has r x || fs.any (fun f => nc_p f.2.1 x.1 && nc_has r (f.1, x.2.1, x.2.2 + f.2.2))
theorem nc_imp_ok {fs r : List ab_AT} {x : ab_AT} {σ : ab_SG} (hf : ∀ f ∈ fs, ab_okA σ f) (h : nc_imp fs r x = true) (hx : ab_okA σ x) : ∃ a ∈ r, ab_okA σ a := by
  unfold nc_imp at h
  rw [Bool.or_eq_true] at h
  rcases h with h | h
  · exact nc_has_ok h hx
  · obtain ⟨f, h1, h2⟩ := List.any_eq_true.mp h
    rw [Bool.and_eq_true] at h2
    refine nc_has_ok h2.2 ?_
    have g := hf f h1
    have e := nc_p_ok h2.1
    unfold ab_okA at g hx ⊢
    rw [← e] at hx
    show ab_pv σ f.1 - ab_pv σ x.2.1 ≤ x.2.2 + f.2.2
    omega
/-- a clause that the place p stands in gives r -/
def nc_row (C : ab_CT) (fs r : List ab_AT) (p : Nat × Nat) : Bool := match C[p.1]? with
  | some row => row.any (fun z => z.1.ble p.2 && (p.2 + 1).ble z.2.1 && z.2.2.any (fun q => q.all (nc_imp fs r)))
  | none => false
def nc_q (C : ab_CT) (fs r : List ab_AT) : Bool :=
  r.any (fun a => (nc_p a.1 a.2.1 && ab_le 0 a.2.2) || nc_has [a] a && fs.any (fun f => nc_has [a] f)) || r.any (fun a => nc_row C fs r a.1 || nc_row C fs r a.2.1)
theorem nc_q_ok {C : ab_CT} {fs r : List ab_AT} {σ : ab_SG} (hC : ab_okC C σ) (hf : ∀ f ∈ fs, ab_okA σ f) (h : nc_q C fs r = true) : ∃ a ∈ r, ab_okA σ a := by
  have key : ∀ p, nc_row C fs r p = true → ∃ a ∈ r, ab_okA σ a := by
    intro p hp
    unfold nc_row at hp
    split at hp
    · rename_i row hrow
      obtain ⟨z, hz, h2⟩ := List.any_eq_true.mp hp
      rw [Bool.and_eq_true] at h2
      obtain ⟨q, hq, h3⟩ := List.any_eq_true.mp h2.2
      obtain ⟨a, ha, hok⟩ := hC.2 _ row hrow z hz q hq
      exact nc_imp_ok hf (List.all_eq_true.mp h3 a ha) hok
    · cases hp
  unfold nc_q at h
  rw [Bool.or_eq_true] at h
  rcases h with h | h
  · obtain ⟨a, ha, h2⟩ := List.any_eq_true.mp h
    rw [Bool.or_eq_true] at h2
    rcases h2 with h2 | h2
    · rw [Bool.and_eq_true] at h2
      refine ⟨a, ha, ?_⟩
      unfold ab_okA
      rw [nc_p_ok h2.1]
      have := ab_le_iff.mp h2.2
      omega
    · rw [Bool.and_eq_true] at h2
      obtain ⟨f, hf1, hf2⟩ := List.any_eq_true.mp h2.2
      obtain ⟨b, hb1, hb2⟩ := nc_has_ok hf2 (hf f hf1)
      rw [List.mem_singleton.mp hb1] at hb2
      exact ⟨a, ha, hb2⟩
  · obtain ⟨a, -, h2⟩ := List.any_eq_true.mp h
    rw [Bool.or_eq_true] at h2
    rcases h2 with h2 | h2
    · exact key _ h2
    · exact key _ h2
/-- all clauses, renamed -/
def nc_ckC (C : ab_CT) (fs : List ab_AT) (rn : Nat × Nat → Nat × Nat) : Bool := C.all (fun row => row.all (fun z => z.2.2.all (fun q => q.all (fun a => nc_p (rn a.1) a.1 && nc_p (rn a.2.1) a.2.1) || nc_q C fs (q.map (fun a => (rn a.1, rn a.2.1, a.2.2))))))
theorem nc_C {C : ab_CT} {fs : List ab_AT} {rn : Nat × Nat → Nat × Nat} {σ σ' : ab_SG} (hC : ab_okC C σ) (hf : ∀ f ∈ fs, ab_okA σ f) (hv : ∀ p, ab_pv σ' p = ab_pv σ (rn p)) (h : nc_ckC C fs rn = true) : ab_okC C σ' := by
  refine ⟨hC.1, fun k row hrow z hz q hq => ?_⟩
  have h1 := List.all_eq_true.mp (List.all_eq_true.mp (List.all_eq_true.mp h row (List.mem_of_getElem? hrow)) z hz) q hq
  rw [Bool.or_eq_true] at h1
  have tr : ∀ a : ab_AT, ab_okA σ (rn a.1, rn a.2.1, a.2.2) → ab_okA σ' a := by
    intro a ha
    unfold ab_okA at ha ⊢
    rw [hv, hv]
    exact ha
  rcases h1 with h1 | h1
  · obtain ⟨a, ha, hok⟩ := hC.2 k row hrow z hz q hq
    have h2 := List.all_eq_true.mp h1 a ha
    rw [Bool.and_eq_true] at h2
    refine ⟨a, ha, tr a ?_⟩
    rw [nc_p_ok h2.1, nc_p_ok h2.2]
    exact hok
  · obtain ⟨b, hb, hok⟩ := nc_q_ok hC hf h1
    obtain ⟨a, ha, rfl⟩ := List.mem_map.mp hb
    exact ⟨a, ha, tr a hok⟩
/-- a number is worked out before it is used -/
def nc_fo {α : Type} (f : Nat → α) : Nat → α
  | 0 => f 0
  | n + 1 => f (n + 1)
theorem nc_fo_eq {α : Type} {f : Nat → α} {n : Nat} : nc_fo f n = f n := by cases n <;> rfl
/-- the ranges of the cell k at the places from o on, n of them, renamed -/
def nc_rg (T : ab_RG) (p : Nat × Nat) : Option (Int × Int) := cond (p.1.beq 1000) (some (0, 0)) (nc_fo (fun a => nc_fo (fun b => ab_rdT T a b b) p.2) p.1)
def nc_ckp (T : ab_RG) (rn : Nat × Nat → Nat × Nat) (k : Nat) (z : Nat × Nat × List (Nat × Nat × Int × Int)) (j : Nat) : Bool := match nc_rg T (rn (k, j)) with
  | some r => z.2.2.all (fun e => (j + 1).ble e.1 || e.2.1.ble j || (ab_le e.2.2.1 r.1 && ab_le r.2 e.2.2.2))
  | none => false
def nc_ckR (T : ab_RG) (rn : Nat × Nat → Nat × Nat) (k o n : Nat) : Bool := match T[k]? with
  | some row => row.all (fun z => (List.range (min z.2.1 (o + n) - max z.1 o)).all (fun i => nc_fo (fun j => nc_ckp T rn k z j) (max z.1 o + i)))
  | none => true
theorem nc_R {T : ab_RG} {rn : Nat × Nat → Nat × Nat} {σ σ' : ab_SG} {k o n : Nat} (hR : ab_okR T σ) (hk : k ≠ 1000) (hv : ∀ p, ab_pv σ' p = ab_pv σ (rn p)) (ho : ∀ a b : Nat, ¬ (a = k ∧ o ≤ b ∧ b < o + n) → σ' a b = σ a b) (h : nc_ckR T rn k o n = true) : ab_okR T σ' := by
  intro k2 row hrow z hz e he j z1 z2 g1 g2
  by_cases hc : k2 = k ∧ o ≤ j ∧ j < o + n
  · obtain ⟨rfl, c1, c2⟩ := hc
    unfold nc_ckR at h
    rw [hrow] at h
    have h0 := List.all_eq_true.mp h z hz
    have m1 : max z.1 o ≤ j := Nat.max_le.mpr ⟨z1, c1⟩
    have m2 : j < min z.2.1 (o + n) := Nat.lt_min.mpr ⟨z2, c2⟩
    have h1 := List.all_eq_true.mp h0 (j - max z.1 o) (List.mem_range.mpr (Nat.sub_lt_sub_right m1 m2))
    rw [Nat.add_sub_of_le m1, nc_fo_eq] at h1
    unfold nc_ckp at h1
    have hb : k2.beq 1000 = false := by
      cases hc : k2.beq 1000 with
      | false => rfl
      | true => exact absurd (ab_beq hc) hk
    have e1 : σ' k2 j = ab_pv σ (rn (k2, j)) := by
      rw [← hv]
      unfold ab_pv
      show _ = cond (k2.beq 1000) 0 (σ' k2 j)
      rw [hb]
      rfl
    split at h1
    · rename_i r hr
      have hrr : r.1 ≤ σ' k2 j ∧ σ' k2 j ≤ r.2 := by
        rw [e1]
        unfold nc_rg at hr
        unfold ab_pv
        cases hp : (rn (k2, j)).1.beq 1000 with
        | true =>
          rw [hp] at hr
          cases hr
          exact ⟨Int.le_refl _, Int.le_refl _⟩
        | false =>
          rw [hp] at hr
          replace hr : nc_fo (fun a => nc_fo (fun b => ab_rdT T a b b) (rn (k2, j)).2) (rn (k2, j)).1 = some r := hr
          rw [nc_fo_eq, nc_fo_eq] at hr
          exact ab_rdT_ok hR hr (Nat.le_refl _) (Nat.le_refl _)
      have h3 := List.all_eq_true.mp h1 e he
      rw [Bool.or_eq_true, Bool.or_eq_true, Bool.and_eq_true, ab_le_iff, ab_le_iff] at h3
      rcases h3 with (h3 | h3) | h3
      · have := Nat.le_of_ble_eq_true h3; omega
      · have := Nat.le_of_ble_eq_true h3; omega
      · omega
    · cases h1
  · rw [ho k2 j hc]
    exact hR k2 row hrow z hz e he j z1 z2 g1 g2
/-- what is known of the frame goes on with the new numbers, but for the cell k -/
theorem nc_K {T : ab_RG} {C : ab_CT} {σ0 σ σ' : ab_SG} {B : ab_BD} {F : ab_FT} {Dl : ab_DL} {M : ab_ML} {ρ : Nat → Int} {k : Nat} (h : ab_K T C σ0 B F Dl M ρ σ) (hR : ab_okR T σ') (hC : ab_okC C σ') (ho : ∀ a b : Nat, a ≠ k → σ' a b = σ a b) : ab_K T C σ0 B F (Dl.filter (fun d => !(d.1.1.beq k))) ((k, 1000000) :: M) ρ σ' := by
  obtain ⟨k1, k2, k3, k4, k5, k6, k7, k8⟩ := h
  refine ⟨k1, k2, k3, k4, ?_, hR, hC, ?_⟩
  · intro d hd
    obtain ⟨d1, d2⟩ := List.mem_filter.mp hd
    obtain ⟨g1, g2, g3⟩ := k5 d d1
    refine ⟨g1, g2, ?_⟩
    rw [ho _ _ (fun q => by rw [q, show k.beq k = true from Nat.beq_refl k] at d2; cases d2)]
    exact g3
  · intro a b hab
    have ha : a ≠ k := fun q => hab (k, 1000000) List.mem_cons_self ⟨q.symm, Or.inr rfl⟩
    rw [ho a b ha]
    exact k8 a b (fun q hq => hab q (List.mem_cons_of_mem _ hq))
/-- a part of a cell copied -/
def nc_cp (σ : ab_SG) (kd od ks os n : Nat) : ab_SG := fun a b => if a = kd ∧ od ≤ b ∧ b < od + n then σ ks (b - od + os) else σ a b
theorem nc_cp0 {σ : ab_SG} {kd od ks os : Nat} : nc_cp σ kd od ks os 0 = σ := by
  funext a b
  exact if_neg (by omega)
theorem nc_cp_src {σ : ab_SG} {kd od ks os n a b : Nat} (h : a ≠ kd) : nc_cp σ kd od ks os n a b = σ a b := if_neg (fun q => h q.1)
theorem nc_cp1 {σ : ab_SG} {kd od ks os i : Nat} : ab_ups (nc_cp σ kd od ks os i) kd (od + i) (σ ks (os + i)) = nc_cp σ kd od ks os (i + 1) := by
  funext a b
  unfold ab_ups nc_cp
  by_cases h1 : a = kd ∧ b = od + i
  · rw [if_pos h1, if_pos (by omega)]
    congr 1
    omega
  · rw [if_neg h1]
    by_cases h2 : a = kd ∧ od ≤ b ∧ b < od + i
    · rw [if_pos h2, if_pos (by omega)]
    · rw [if_neg h2, if_neg (by omega)]
def nc_rn (kd od ks os n : Nat) (p : Nat × Nat) : Nat × Nat := cond (p.1.beq kd && od.ble p.2 && (p.2 + 1).ble (od + n)) (ks, p.2 - od + os) p
theorem nc_cp_rn {σ : ab_SG} {kd od ks os n : Nat} (hk : kd ≠ 1000) (hs : ks ≠ 1000) : ∀ p, ab_pv (nc_cp σ kd od ks os n) p = ab_pv σ (nc_rn kd od ks os n p) := by
  intro p
  unfold nc_rn
  cases hc : (p.1.beq kd && od.ble p.2 && (p.2 + 1).ble (od + n)) with
  | true =>
    rw [Bool.and_eq_true, Bool.and_eq_true] at hc
    have h1 := ab_beq hc.1.1
    have h2 := Nat.le_of_ble_eq_true hc.1.2
    have h3 := Nat.le_of_ble_eq_true hc.2
    have e1 : p.1.beq 1000 = false := by
      cases hq : p.1.beq 1000 with
      | false => rfl
      | true => exact absurd (h1.symm.trans (ab_beq hq)) hk
    have e2 : ks.beq 1000 = false := by
      cases hq : ks.beq 1000 with
      | false => rfl
      | true => exact absurd (ab_beq hq) hs
    unfold ab_pv
    show cond (p.1.beq 1000) 0 (nc_cp σ kd od ks os n p.1 p.2) = cond (ks.beq 1000) 0 (σ ks (p.2 - od + os))
    rw [e1, e2]
    exact if_pos ⟨h1, h2, by omega⟩
  | false =>
    unfold ab_pv
    show cond (p.1.beq 1000) 0 (nc_cp σ kd od ks os n p.1 p.2) = cond (p.1.beq 1000) 0 (σ p.1 p.2)
    congr 1
    refine if_neg (fun q => ?_)
    rw [show p.1.beq kd = true by rw [q.1]; exact Nat.beq_refl kd, Nat.ble_eq_true_of_le q.2.1, Nat.ble_eq_true_of_le (show p.2 + 1 ≤ od + n by omega)] at hc
    cases hc
theorem nc_le {a b : Nat} (ha : a < 2 ^ 31) (hb : b < 2 ^ 31) : (Int32.ofInt (a : Int) ≤ Int32.ofInt (b : Int)) ↔ a ≤ b := by
  rw [Int32.le_iff_toInt_le, Int32.toInt_ofInt_of_le (by omega) (by omega), Int32.toInt_ofInt_of_le (by omega) (by omega)]
  omega
def nl_fs : List (Nat × Nat) := match nn_sh[93]? with
  | some (Sum.inl o) => o.2
  | _ => []
theorem nl_sh : nn_sh[93]? = some (Sum.inl (11, nl_fs)) := rfl
end
section
/-! the copy loops of the reference, by hand -/
section
variable {p : Program} {l : Launch} {e : Env} {R : Room} {s : State} {m : MethodId} {args : Array Value} {below : List Frame} {meth : Method} {c : Code} {H0 : Heap} {cells slots : Nat} {Q : State → Prop}
variable {ad wr cr : Nat → Nat} {cy : Nat → ClassId} {D : va_G} {A : Nat → Prop} {Ts : List Jvm.Cond} {KI KJ : List (Nat × Int)} {PS : ab_PS} {PM : ab_PC2} {KS : ab_KS} {lev sc n0 : Nat} {ρ0 : Nat → Int}
set_option maxHeartbeats 4000000 in
/-- image: 'now' into a half of 'kept' -/
theorem nl_image {dt : ab_DT} {σ9 : ab_SG} {k : Nat} (hk2 : k < 2) (hE : ab_Ev p l s m args meth c prog_14_method_150_code 3 lev R cy ad wr cr D vwCl nn_sh nn_T nn_C "NameNotesModel" A H0 Ts nn_TT nn_NW nn_MT KI KJ (nn_PF20.map (fun x => x.1)) nn_kd PS PM KS sc n0 ρ0 cells slots dt σ9) {σ : ab_SG} :
    ∀ (d i : Nat) (H : Heap) (locs : List Loc) (ls : Array Slot), i + d = 474 → lv_has ls 3 [(2, .int (Int32.ofInt ((i : Nat) : Int))), (1, .int (Int32.ofInt ((k : Nat) : Int))), (0, .ref (ad 93))] → va_P D vwCl (ab_WD cy ad wr nn_sh (nc_cp σ 97 (474 * k) 95 0 i)) H → va_S A H0 H locs →
    (∀ (H : Heap) (locs : List Loc) (ls : Array Slot), lv_has ls 3 [(2, .int (Int32.ofInt ((474 : Nat) : Int))), (1, .int (Int32.ofInt ((k : Nat) : Int))), (0, .ref (ad 93))] → va_P D vwCl (ab_WD cy ad wr nn_sh (nc_cp σ 97 (474 * k) 95 0 474)) H → va_S A H0 H locs → W p l e R s m args below meth c H locs cells slots Q (F0 m 53 ls [])) →
    W p l e R s m args below meth c H locs cells slots Q (F0 m 22 ls []) := by
  obtain ⟨hx, hb, hml, hown, hts, hKK, hN, hTT, hcode, hA, hA2, hPM, hKS, hR, hKI, hKJ, hPF, hD, -⟩ := hE
  intro d
  induction d with
  | zero =>
    intro i H locs ls hi hl hP hS kk
    have hi : i = 474 := by omega
    subst hi
    refine lv_iload_n hx hb (show decode prog_14_method_150_code 22 = .ok (.iload_n 2, 1) by decide +kernel) rfl (lv_at hl 0 rfl) ?_
    refine lv_sipush (v := Int32.ofInt ((474 : Nat) : Int)) hx hb (show decode prog_14_method_150_code 23 = .ok (.sipush 474, 3) by decide +kernel) (by decide) ?_
    refine lv_icmp_ge (tgt := 53) hx hb (show decode prog_14_method_150_code 26 = .ok (.if_icmp .ge 27, 3) by decide +kernel) (by decide) (fun h => ?_) (fun h => ?_)
    · exact kk H locs ls hl hP hS
    · exact absurd ((nc_le (by decide) (by decide)).mpr (Nat.le_refl 474)) h
  | succ d ih =>
    intro i H locs ls hi hl hP hS kk
    refine lv_iload_n hx hb (show decode prog_14_method_150_code 22 = .ok (.iload_n 2, 1) by decide +kernel) rfl (lv_at hl 0 rfl) ?_
    refine lv_sipush (v := Int32.ofInt ((474 : Nat) : Int)) hx hb (show decode prog_14_method_150_code 23 = .ok (.sipush 474, 3) by decide +kernel) (by decide) ?_
    refine lv_icmp_ge (tgt := 53) hx hb (show decode prog_14_method_150_code 26 = .ok (.if_icmp .ge 27, 3) by decide +kernel) (by decide) (fun h => ?_) (fun h => ?_)
    · exact absurd ((nc_le (by decide) (by omega)).mp h) (by omega)
    ·
      refine lv_aload_n hx hb (show decode prog_14_method_150_code 29 = .ok (.aload_n 0, 1) by decide +kernel) rfl (lv_at hl 2 rfl) ?_
      refine ab_getf_ok (k := 93) (ci := 11) (j := 16) (ty := 0) (fs := nl_fs) (f := (2, 97)) hx hb hown hts hKK hPF (x := 19) (by decide +kernel) nl_sh (by decide +kernel) (show decode prog_14_method_150_code 30 = .ok (.getfield 19, 3) by decide +kernel) hP ?_
      refine lv_sipush (v := Int32.ofInt ((474 : Nat) : Int)) hx hb (show decode prog_14_method_150_code 33 = .ok (.sipush 474, 3) by decide +kernel) (by decide) ?_
      refine lv_iload_n hx hb (show decode prog_14_method_150_code 36 = .ok (.iload_n 1, 1) by decide +kernel) rfl (lv_at hl 1 rfl) ?_
      refine lv_imul hx hb (show decode prog_14_method_150_code 37 = .ok (.imul, 1) by decide +kernel) ?_
      refine lv_iload_n hx hb (show decode prog_14_method_150_code 38 = .ok (.iload_n 2, 1) by decide +kernel) rfl (lv_at hl 0 rfl) ?_
      refine lv_iadd hx hb (show decode prog_14_method_150_code 39 = .ok (.iadd, 1) by decide +kernel) ?_
      rw [show Int32.ofInt ((474 : Nat) : Int) * Int32.ofInt ((k : Nat) : Int) + Int32.ofInt ((i : Nat) : Int) = Int32.ofInt ((474 * k + i : Nat) : Int) by rw [← Int32.ofInt_mul, ← Int32.ofInt_add]; congr 1]
      refine lv_aload_n hx hb (show decode prog_14_method_150_code 40 = .ok (.aload_n 0, 1) by decide +kernel) rfl (lv_at hl 2 rfl) ?_
      refine ab_getf_ok (k := 93) (ci := 11) (j := 14) (ty := 0) (fs := nl_fs) (f := (2, 95)) hx hb hown hts hKK hPF (x := 13) (by decide +kernel) nl_sh (by decide +kernel) (show decode prog_14_method_150_code 41 = .ok (.getfield 13, 3) by decide +kernel) hP ?_
      refine lv_iload_n hx hb (show decode prog_14_method_150_code 44 = .ok (.iload_n 2, 1) by decide +kernel) rfl (lv_at hl 0 rfl) ?_
      obtain ⟨v1, v2⟩ := ab_idx (x := ((i : Nat) : Int)) (n := 474) (by omega) (by omega) (by decide)
      refine va_iald hx hb hKK hP 95 0 (ab_WD_get (sp := .inr (0, 474)) (by rfl)) rfl v1 (show decode prog_14_method_150_code 45 = .ok (.iaload, 1) by decide +kernel) ?_
      rw [v2, Int.toNat_natCast]
      rw [nc_cp_src (by decide)]
      obtain ⟨w1, w2⟩ := ab_idx (x := ((474 * k + i : Nat) : Int)) (n := 948) (by omega) (by omega) (by decide)
      refine va_iast hx hb hKK hP (hD _) hS 97 0 (ab_WD_get (sp := .inr (0, 948)) (by rfl)) rfl w1 (show decode prog_14_method_150_code 46 = .ok (.iastore, 1) by decide +kernel) (fun H1 locs1 hP1 _ hS1 => ?_)
      have hP1 : va_P D vwCl (ab_WD cy ad wr nn_sh (nc_cp σ 97 (474 * k) 95 0 (i + 1))) H1 := by
        rw [ab_WD_set (σ' := ab_ups (nc_cp σ 97 (474 * k) 95 0 i) 97 (474 * k + i) (σ 95 i)) (sp := .inr (0, 948)) (by rfl) ?_ (fun a ha9 => ab_ups_row ha9)] at hP1
        · rw [show σ 95 i = σ 95 (0 + i) by rw [Nat.zero_add], nc_cp1] at hP1; exact hP1
        · show _ = Sum.inl (cy 0, (948, Sum.inl (fun j => Int32.ofInt (ab_ups (nc_cp σ 97 (474 * k) 95 0 i) 97 (474 * k + i) (σ 95 i) 97 j))))
          rw [ab_row32, w2, Int.toNat_natCast]
      refine lv_iinc (v := Int32.ofInt ((i + 1 : Nat) : Int)) (lv' := [(2, .int (Int32.ofInt ((i + 1 : Nat) : Int))), (1, .int (Int32.ofInt ((k : Nat) : Int))), (0, .ref (ad 93))]) hx hb (show decode prog_14_method_150_code 47 = .ok (.iinc 2 1, 3) by decide +kernel) hl (k := 0) rfl (by rw [← Int32.ofInt_add]; congr 1) (by decide) rfl (fun ls hl => ?_)
      refine lv_goto (tgt := 22) hx hb (show decode prog_14_method_150_code 50 = .ok (.goto (-28), 3) by decide +kernel) (by decide) ?_
      exact ih (i + 1) H1 locs1 ls (by omega) hl hP1 hS1 kk
set_option maxHeartbeats 4000000 in
/-- restore: a half of 'kept' into 'now' -/
theorem nl_restore {dt : ab_DT} {σ9 : ab_SG} {k : Nat} (hk2 : k < 2) (hE : ab_Ev p l s m args meth c prog_14_method_151_code 3 lev R cy ad wr cr D vwCl nn_sh nn_T nn_C "NameNotesModel" A H0 Ts nn_TT nn_NW nn_MT KI KJ (nn_PF20.map (fun x => x.1)) nn_kd PS PM KS sc n0 ρ0 cells slots dt σ9) {σ : ab_SG} :
    ∀ (d i : Nat) (H : Heap) (locs : List Loc) (ls : Array Slot), i + d = 474 → lv_has ls 3 [(2, .int (Int32.ofInt ((i : Nat) : Int))), (1, .int (Int32.ofInt ((k : Nat) : Int))), (0, .ref (ad 93))] → va_P D vwCl (ab_WD cy ad wr nn_sh (nc_cp σ 95 0 97 (474 * k) i)) H → va_S A H0 H locs →
    (∀ (H : Heap) (locs : List Loc) (ls : Array Slot), lv_has ls 3 [(2, .int (Int32.ofInt ((474 : Nat) : Int))), (1, .int (Int32.ofInt ((k : Nat) : Int))), (0, .ref (ad 93))] → va_P D vwCl (ab_WD cy ad wr nn_sh (nc_cp σ 95 0 97 (474 * k) 474)) H → va_S A H0 H locs → W p l e R s m args below meth c H locs cells slots Q (F0 m 58 ls [])) →
    W p l e R s m args below meth c H locs cells slots Q (F0 m 27 ls []) := by
  obtain ⟨hx, hb, hml, hown, hts, hKK, hN, hTT, hcode, hA, hA2, hPM, hKS, hR, hKI, hKJ, hPF, hD, -⟩ := hE
  intro d
  induction d with
  | zero =>
    intro i H locs ls hi hl hP hS kk
    have hi : i = 474 := by omega
    subst hi
    refine lv_iload_n hx hb (show decode prog_14_method_151_code 27 = .ok (.iload_n 2, 1) by decide +kernel) rfl (lv_at hl 0 rfl) ?_
    refine lv_sipush (v := Int32.ofInt ((474 : Nat) : Int)) hx hb (show decode prog_14_method_151_code 28 = .ok (.sipush 474, 3) by decide +kernel) (by decide) ?_
    refine lv_icmp_ge (tgt := 58) hx hb (show decode prog_14_method_151_code 31 = .ok (.if_icmp .ge 27, 3) by decide +kernel) (by decide) (fun h => ?_) (fun h => ?_)
    · exact kk H locs ls hl hP hS
    · exact absurd ((nc_le (by decide) (by decide)).mpr (Nat.le_refl 474)) h
  | succ d ih =>
    intro i H locs ls hi hl hP hS kk
    refine lv_iload_n hx hb (show decode prog_14_method_151_code 27 = .ok (.iload_n 2, 1) by decide +kernel) rfl (lv_at hl 0 rfl) ?_
    refine lv_sipush (v := Int32.ofInt ((474 : Nat) : Int)) hx hb (show decode prog_14_method_151_code 28 = .ok (.sipush 474, 3) by decide +kernel) (by decide) ?_
    refine lv_icmp_ge (tgt := 58) hx hb (show decode prog_14_method_151_code 31 = .ok (.if_icmp .ge 27, 3) by decide +kernel) (by decide) (fun h => ?_) (fun h => ?_)
    · exact absurd ((nc_le (by decide) (by omega)).mp h) (by omega)
    ·
      refine lv_aload_n hx hb (show decode prog_14_method_151_code 34 = .ok (.aload_n 0, 1) by decide +kernel) rfl (lv_at hl 2 rfl) ?_
      refine ab_getf_ok (k := 93) (ci := 11) (j := 14) (ty := 0) (fs := nl_fs) (f := (2, 95)) hx hb hown hts hKK hPF (x := 13) (by decide +kernel) nl_sh (by decide +kernel) (show decode prog_14_method_151_code 35 = .ok (.getfield 13, 3) by decide +kernel) hP ?_
      refine lv_iload_n hx hb (show decode prog_14_method_151_code 38 = .ok (.iload_n 2, 1) by decide +kernel) rfl (lv_at hl 0 rfl) ?_
      refine lv_aload_n hx hb (show decode prog_14_method_151_code 39 = .ok (.aload_n 0, 1) by decide +kernel) rfl (lv_at hl 2 rfl) ?_
      refine ab_getf_ok (k := 93) (ci := 11) (j := 16) (ty := 0) (fs := nl_fs) (f := (2, 97)) hx hb hown hts hKK hPF (x := 19) (by decide +kernel) nl_sh (by decide +kernel) (show decode prog_14_method_151_code 40 = .ok (.getfield 19, 3) by decide +kernel) hP ?_
      refine lv_sipush (v := Int32.ofInt ((474 : Nat) : Int)) hx hb (show decode prog_14_method_151_code 43 = .ok (.sipush 474, 3) by decide +kernel) (by decide) ?_
      refine lv_iload_n hx hb (show decode prog_14_method_151_code 46 = .ok (.iload_n 1, 1) by decide +kernel) rfl (lv_at hl 1 rfl) ?_
      refine lv_imul hx hb (show decode prog_14_method_151_code 47 = .ok (.imul, 1) by decide +kernel) ?_
      refine lv_iload_n hx hb (show decode prog_14_method_151_code 48 = .ok (.iload_n 2, 1) by decide +kernel) rfl (lv_at hl 0 rfl) ?_
      refine lv_iadd hx hb (show decode prog_14_method_151_code 49 = .ok (.iadd, 1) by decide +kernel) ?_
      rw [show Int32.ofInt ((474 : Nat) : Int) * Int32.ofInt ((k : Nat) : Int) + Int32.ofInt ((i : Nat) : Int) = Int32.ofInt ((474 * k + i : Nat) : Int) by rw [← Int32.ofInt_mul, ← Int32.ofInt_add]; congr 1]
      obtain ⟨v1, v2⟩ := ab_idx (x := ((474 * k + i : Nat) : Int)) (n := 948) (by omega) (by omega) (by decide)
      refine va_iald hx hb hKK hP 97 0 (ab_WD_get (sp := .inr (0, 948)) (by rfl)) rfl v1 (show decode prog_14_method_151_code 50 = .ok (.iaload, 1) by decide +kernel) ?_
      rw [v2, Int.toNat_natCast]
      rw [nc_cp_src (by decide)]
      obtain ⟨w1, w2⟩ := ab_idx (x := ((i : Nat) : Int)) (n := 474) (by omega) (by omega) (by decide)
      refine va_iast hx hb hKK hP (hD _) hS 95 0 (ab_WD_get (sp := .inr (0, 474)) (by rfl)) rfl w1 (show decode prog_14_method_151_code 51 = .ok (.iastore, 1) by decide +kernel) (fun H1 locs1 hP1 _ hS1 => ?_)
      have hP1 : va_P D vwCl (ab_WD cy ad wr nn_sh (nc_cp σ 95 0 97 (474 * k) (i + 1))) H1 := by
        rw [ab_WD_set (σ' := ab_ups (nc_cp σ 95 0 97 (474 * k) i) 95 (i) (σ 97 (474 * k + i))) (sp := .inr (0, 474)) (by rfl) ?_ (fun a ha9 => ab_ups_row ha9)] at hP1
        · rw [show ab_ups (nc_cp σ 95 0 97 (474 * k) i) 95 i = ab_ups (nc_cp σ 95 0 97 (474 * k) i) 95 (0 + i) by rw [Nat.zero_add], nc_cp1] at hP1; exact hP1
        · show _ = Sum.inl (cy 0, (474, Sum.inl (fun j => Int32.ofInt (ab_ups (nc_cp σ 95 0 97 (474 * k) i) 95 (i) (σ 97 (474 * k + i)) 95 j))))
          rw [ab_row32, w2, Int.toNat_natCast]
      refine lv_iinc (v := Int32.ofInt ((i + 1 : Nat) : Int)) (lv' := [(2, .int (Int32.ofInt ((i + 1 : Nat) : Int))), (1, .int (Int32.ofInt ((k : Nat) : Int))), (0, .ref (ad 93))]) hx hb (show decode prog_14_method_151_code 52 = .ok (.iinc 2 1, 3) by decide +kernel) hl (k := 0) rfl (by rw [← Int32.ofInt_add]; congr 1) (by decide) rfl (fun ls hl => ?_)
      refine lv_goto (tgt := 27) hx hb (show decode prog_14_method_151_code 55 = .ok (.goto (-28), 3) by decide +kernel) (by decide) ?_
      exact ih (i + 1) H1 locs1 ls (by omega) hl hP1 hS1 kk
set_option maxHeartbeats 4000000 in
/-- sentence: 'node' into 'now' -/
theorem nl_sentence {dt : ab_DT} {σ9 : ab_SG} (hE : ab_Ev p l s m args meth c prog_14_method_147_code 2 lev R cy ad wr cr D vwCl nn_sh nn_T nn_C "NameNotesModel" A H0 Ts nn_TT nn_NW nn_MT KI KJ (nn_PF20.map (fun x => x.1)) nn_kd PS PM KS sc n0 ρ0 cells slots dt σ9) {σ : ab_SG} :
    ∀ (d i : Nat) (H : Heap) (locs : List Loc) (ls : Array Slot), i + d = 240 → lv_has ls 2 [(1, .int (Int32.ofInt ((i : Nat) : Int))), (0, .ref (ad 93))] → va_P D vwCl (ab_WD cy ad wr nn_sh (nc_cp σ 95 234 121 0 i)) H → va_S A H0 H locs →
    (∀ (H : Heap) (locs : List Loc) (ls : Array Slot), lv_has ls 2 [(1, .int (Int32.ofInt ((240 : Nat) : Int))), (0, .ref (ad 93))] → va_P D vwCl (ab_WD cy ad wr nn_sh (nc_cp σ 95 234 121 0 240)) H → va_S A H0 H locs → W p l e R s m args below meth c H locs cells slots Q (F0 m 108 ls [])) →
    W p l e R s m args below meth c H locs cells slots Q (F0 m 79 ls []) := by
  obtain ⟨hx, hb, hml, hown, hts, hKK, hN, hTT, hcode, hA, hA2, hPM, hKS, hR, hKI, hKJ, hPF, hD, -⟩ := hE
  intro d
  induction d with
  | zero =>
    intro i H locs ls hi hl hP hS kk
    have hi : i = 240 := by omega
    subst hi
    refine lv_iload_n hx hb (show decode prog_14_method_147_code 79 = .ok (.iload_n 1, 1) by decide +kernel) rfl (lv_at hl 0 rfl) ?_
    refine lv_sipush (v := Int32.ofInt ((240 : Nat) : Int)) hx hb (show decode prog_14_method_147_code 80 = .ok (.sipush 240, 3) by decide +kernel) (by decide) ?_
    refine lv_icmp_ge (tgt := 108) hx hb (show decode prog_14_method_147_code 83 = .ok (.if_icmp .ge 25, 3) by decide +kernel) (by decide) (fun h => ?_) (fun h => ?_)
    · exact kk H locs ls hl hP hS
    · exact absurd ((nc_le (by decide) (by decide)).mpr (Nat.le_refl 240)) h
  | succ d ih =>
    intro i H locs ls hi hl hP hS kk
    refine lv_iload_n hx hb (show decode prog_14_method_147_code 79 = .ok (.iload_n 1, 1) by decide +kernel) rfl (lv_at hl 0 rfl) ?_
    refine lv_sipush (v := Int32.ofInt ((240 : Nat) : Int)) hx hb (show decode prog_14_method_147_code 80 = .ok (.sipush 240, 3) by decide +kernel) (by decide) ?_
    refine lv_icmp_ge (tgt := 108) hx hb (show decode prog_14_method_147_code 83 = .ok (.if_icmp .ge 25, 3) by decide +kernel) (by decide) (fun h => ?_) (fun h => ?_)
    · exact absurd ((nc_le (by decide) (by omega)).mp h) (by omega)
    ·
      refine lv_aload_n hx hb (show decode prog_14_method_147_code 86 = .ok (.aload_n 0, 1) by decide +kernel) rfl (lv_at hl 1 rfl) ?_
      refine ab_getf_ok (k := 93) (ci := 11) (j := 14) (ty := 0) (fs := nl_fs) (f := (2, 95)) hx hb hown hts hKK hPF (x := 13) (by decide +kernel) nl_sh (by decide +kernel) (show decode prog_14_method_147_code 87 = .ok (.getfield 13, 3) by decide +kernel) hP ?_
      refine lv_sipush (v := Int32.ofInt ((234 : Nat) : Int)) hx hb (show decode prog_14_method_147_code 90 = .ok (.sipush 234, 3) by decide +kernel) (by decide) ?_
      refine lv_iload_n hx hb (show decode prog_14_method_147_code 93 = .ok (.iload_n 1, 1) by decide +kernel) rfl (lv_at hl 0 rfl) ?_
      refine lv_iadd hx hb (show decode prog_14_method_147_code 94 = .ok (.iadd, 1) by decide +kernel) ?_
      rw [show Int32.ofInt ((234 : Nat) : Int) + Int32.ofInt ((i : Nat) : Int) = Int32.ofInt ((234 + i : Nat) : Int) by rw [← Int32.ofInt_add]; congr 1]
      refine lv_aload_n hx hb (show decode prog_14_method_147_code 95 = .ok (.aload_n 0, 1) by decide +kernel) rfl (lv_at hl 1 rfl) ?_
      refine ab_getf_ok (k := 93) (ci := 11) (j := 58) (ty := 0) (fs := nl_fs) (f := (2, 121)) hx hb hown hts hKK hPF (x := 97) (by decide +kernel) nl_sh (by decide +kernel) (show decode prog_14_method_147_code 96 = .ok (.getfield 97, 3) by decide +kernel) hP ?_
      refine lv_iload_n hx hb (show decode prog_14_method_147_code 99 = .ok (.iload_n 1, 1) by decide +kernel) rfl (lv_at hl 0 rfl) ?_
      obtain ⟨v1, v2⟩ := ab_idx (x := ((i : Nat) : Int)) (n := 240) (by omega) (by omega) (by decide)
      refine va_iald hx hb hKK hP 121 0 (ab_WD_get (sp := .inr (0, 240)) (by rfl)) rfl v1 (show decode prog_14_method_147_code 100 = .ok (.iaload, 1) by decide +kernel) ?_
      rw [v2, Int.toNat_natCast]
      rw [nc_cp_src (by decide)]
      obtain ⟨w1, w2⟩ := ab_idx (x := ((234 + i : Nat) : Int)) (n := 474) (by omega) (by omega) (by decide)
      refine va_iast hx hb hKK hP (hD _) hS 95 0 (ab_WD_get (sp := .inr (0, 474)) (by rfl)) rfl w1 (show decode prog_14_method_147_code 101 = .ok (.iastore, 1) by decide +kernel) (fun H1 locs1 hP1 _ hS1 => ?_)
      have hP1 : va_P D vwCl (ab_WD cy ad wr nn_sh (nc_cp σ 95 234 121 0 (i + 1))) H1 := by
        rw [ab_WD_set (σ' := ab_ups (nc_cp σ 95 234 121 0 i) 95 (234 + i) (σ 121 i)) (sp := .inr (0, 474)) (by rfl) ?_ (fun a ha9 => ab_ups_row ha9)] at hP1
        · rw [show σ 121 i = σ 121 (0 + i) by rw [Nat.zero_add], nc_cp1] at hP1; exact hP1
        · show _ = Sum.inl (cy 0, (474, Sum.inl (fun j => Int32.ofInt (ab_ups (nc_cp σ 95 234 121 0 i) 95 (234 + i) (σ 121 i) 95 j))))
          rw [ab_row32, w2, Int.toNat_natCast]
      refine lv_iinc (v := Int32.ofInt ((i + 1 : Nat) : Int)) (lv' := [(1, .int (Int32.ofInt ((i + 1 : Nat) : Int))), (0, .ref (ad 93))]) hx hb (show decode prog_14_method_147_code 102 = .ok (.iinc 1 1, 3) by decide +kernel) hl (k := 0) rfl (by rw [← Int32.ofInt_add]; congr 1) (by decide) rfl (fun ls hl => ?_)
      refine lv_goto (tgt := 79) hx hb (show decode prog_14_method_147_code 105 = .ok (.goto (-26), 3) by decide +kernel) (by decide) ?_
      exact ih (i + 1) H1 locs1 ls (by omega) hl hP1 hS1 kk
/-- what studio() lays into 'now' -/
def nl_st (σ : ab_SG) (n : Nat) : ab_SG := fun a b => if a = 95 ∧ b < n then (if b < 232 then σ 96 b else 0) else σ a b
theorem nl_st0 {σ : ab_SG} : nl_st σ 0 = σ := by
  funext a b
  exact if_neg (by omega)
theorem nl_st_src {σ : ab_SG} {n a b : Nat} (h : a ≠ 95) : nl_st σ n a b = σ a b := if_neg (fun q => h q.1)
theorem nl_st1 {σ : ab_SG} {i : Nat} {x : Int} (hx : x = if i < 232 then σ 96 i else 0) : ab_ups (nl_st σ i) 95 i x = nl_st σ (i + 1) := by
  funext a b
  unfold ab_ups nl_st
  by_cases h1 : a = 95 ∧ b = i
  · rw [if_pos h1, if_pos (by omega), h1.2, hx]
  · rw [if_neg h1]
    by_cases h2 : a = 95 ∧ b < i
    · have h3 : a = 95 ∧ b < i + 1 := ⟨h2.1, by omega⟩
      rw [if_pos h2, if_pos h3]
    · have h3 : ¬ (a = 95 ∧ b < i + 1) := by omega
      rw [if_neg h2, if_neg h3]
set_option maxHeartbeats 4000000 in
/-- studio: 'read' into 'now', nought behind it -/
theorem nl_studio {dt : ab_DT} {σ9 : ab_SG} {a1 : Int32} (hE : ab_Ev p l s m args meth c prog_14_method_39_code 3 lev R cy ad wr cr D vwCl nn_sh nn_T nn_C "NameNotesModel" A H0 Ts nn_TT nn_NW nn_MT KI KJ (nn_PF20.map (fun x => x.1)) nn_kd PS PM KS sc n0 ρ0 cells slots dt σ9) {σ : ab_SG} :
    ∀ (d i : Nat) (H : Heap) (locs : List Loc) (ls : Array Slot), i + d = 474 → lv_has ls 3 [(2, .int (Int32.ofInt ((i : Nat) : Int))), (1, .int a1), (0, .ref (ad 93))] → va_P D vwCl (ab_WD cy ad wr nn_sh (nl_st σ i)) H → va_S A H0 H locs →
    (∀ (H : Heap) (locs : List Loc) (ls : Array Slot), lv_has ls 3 [(2, .int (Int32.ofInt ((474 : Nat) : Int))), (1, .int a1), (0, .ref (ad 93))] → va_P D vwCl (ab_WD cy ad wr nn_sh (nl_st σ 474)) H → va_S A H0 H locs → W p l e R s m args below meth c H locs cells slots Q (F0 m 154 ls [])) →
    W p l e R s m args below meth c H locs cells slots Q (F0 m 118 ls []) := by
  obtain ⟨hx, hb, hml, hown, hts, hKK, hN, hTT, hcode, hA, hA2, hPM, hKS, hR, hKI, hKJ, hPF, hD, -⟩ := hE
  intro d
  induction d with
  | zero =>
    intro i H locs ls hi hl hP hS kk
    have hi : i = 474 := by omega
    subst hi
    refine lv_iload_n hx hb (show decode prog_14_method_39_code 118 = .ok (.iload_n 2, 1) by decide +kernel) rfl (lv_at hl 0 rfl) ?_
    refine lv_sipush (v := Int32.ofInt ((474 : Nat) : Int)) hx hb (show decode prog_14_method_39_code 119 = .ok (.sipush 474, 3) by decide +kernel) (by decide) ?_
    refine lv_icmp_ge (tgt := 154) hx hb (show decode prog_14_method_39_code 122 = .ok (.if_icmp .ge 32, 3) by decide +kernel) (by decide) (fun h => ?_) (fun h => ?_)
    · exact kk H locs ls hl hP hS
    · exact absurd ((nc_le (by decide) (by decide)).mpr (Nat.le_refl 474)) h
  | succ d ih =>
    intro i H locs ls hi hl hP hS kk
    refine lv_iload_n hx hb (show decode prog_14_method_39_code 118 = .ok (.iload_n 2, 1) by decide +kernel) rfl (lv_at hl 0 rfl) ?_
    refine lv_sipush (v := Int32.ofInt ((474 : Nat) : Int)) hx hb (show decode prog_14_method_39_code 119 = .ok (.sipush 474, 3) by decide +kernel) (by decide) ?_
    refine lv_icmp_ge (tgt := 154) hx hb (show decode prog_14_method_39_code 122 = .ok (.if_icmp .ge 32, 3) by decide +kernel) (by decide) (fun h => ?_) (fun h => ?_)
    · exact absurd ((nc_le (by decide) (by omega)).mp h) (by omega)
    ·
      refine lv_aload_n hx hb (show decode prog_14_method_39_code 125 = .ok (.aload_n 0, 1) by decide +kernel) rfl (lv_at hl 2 rfl) ?_
      refine ab_getf_ok (k := 93) (ci := 11) (j := 14) (ty := 0) (fs := nl_fs) (f := (2, 95)) hx hb hown hts hKK hPF (x := 13) (by decide +kernel) nl_sh (by decide +kernel) (show decode prog_14_method_39_code 126 = .ok (.getfield 13, 3) by decide +kernel) hP ?_
      refine lv_iload_n hx hb (show decode prog_14_method_39_code 129 = .ok (.iload_n 2, 1) by decide +kernel) rfl (lv_at hl 0 rfl) ?_
      refine lv_iload_n hx hb (show decode prog_14_method_39_code 130 = .ok (.iload_n 2, 1) by decide +kernel) rfl (lv_at hl 0 rfl) ?_
      refine lv_sipush (v := Int32.ofInt ((232 : Nat) : Int)) hx hb (show decode prog_14_method_39_code 131 = .ok (.sipush 232, 3) by decide +kernel) (by decide) ?_
      have fin : ∀ (x : Int), (x = if i < 232 then σ 96 i else 0) → W p l e R s m args below meth c H locs cells slots Q (F0 m 147 ls [.int (Int32.ofInt x), .int (Int32.ofInt ((i : Nat) : Int)), .ref (ad 95)]) := by
        intro x hx9
        obtain ⟨w1, w2⟩ := ab_idx (x := ((i : Nat) : Int)) (n := 474) (by omega) (by omega) (by decide)
        refine va_iast hx hb hKK hP (hD _) hS 95 0 (ab_WD_get (sp := .inr (0, 474)) (by rfl)) rfl w1 (show decode prog_14_method_39_code 147 = .ok (.iastore, 1) by decide +kernel) (fun H1 locs1 hP1 _ hS1 => ?_)
        have hP1 : va_P D vwCl (ab_WD cy ad wr nn_sh (nl_st σ (i + 1))) H1 := by
          rw [ab_WD_set (σ' := ab_ups (nl_st σ i) 95 (i) (x)) (sp := .inr (0, 474)) (by rfl) ?_ (fun a ha9 => ab_ups_row ha9)] at hP1
          · rw [nl_st1 hx9] at hP1; exact hP1
          · show _ = Sum.inl (cy 0, (474, Sum.inl (fun j => Int32.ofInt (ab_ups (nl_st σ i) 95 (i) (x) 95 j))))
            rw [ab_row32, w2, Int.toNat_natCast]
        refine lv_iinc (v := Int32.ofInt ((i + 1 : Nat) : Int)) (lv' := [(2, .int (Int32.ofInt ((i + 1 : Nat) : Int))), (1, .int a1), (0, .ref (ad 93))]) hx hb (show decode prog_14_method_39_code 148 = .ok (.iinc 2 1, 3) by decide +kernel) hl (k := 0) rfl (by rw [← Int32.ofInt_add]; congr 1) (by decide) rfl (fun ls hl => ?_)
        refine lv_goto (tgt := 118) hx hb (show decode prog_14_method_39_code 151 = .ok (.goto (-33), 3) by decide +kernel) (by decide) ?_
        exact ih (i + 1) H1 locs1 ls (by omega) hl hP1 hS1 kk
      refine lv_icmp_ge (tgt := 146) hx hb (show decode prog_14_method_39_code 134 = .ok (.if_icmp .ge 12, 3) by decide +kernel) (by decide) (fun h2 => ?_) (fun h2 => ?_)
      · refine lv_iconst (v := 0) hx hb (show decode prog_14_method_39_code 146 = .ok (.iconst 0, 1) by decide +kernel) (by decide) ?_
        have h3 := (nc_le (by decide) (by omega)).mp h2
        exact fin 0 (by rw [if_neg (by omega)])
      · have h3 : i < 232 := Nat.lt_of_not_le (fun q => h2 ((nc_le (by decide) (by omega)).mpr q))
        refine lv_aload_n hx hb (show decode prog_14_method_39_code 137 = .ok (.aload_n 0, 1) by decide +kernel) rfl (lv_at hl 2 rfl) ?_
        refine ab_getf_ok (k := 93) (ci := 11) (j := 15) (ty := 0) (fs := nl_fs) (f := (2, 96)) hx hb hown hts hKK hPF (x := 16) (by decide +kernel) nl_sh (by decide +kernel) (show decode prog_14_method_39_code 138 = .ok (.getfield 16, 3) by decide +kernel) hP ?_
        refine lv_iload_n hx hb (show decode prog_14_method_39_code 141 = .ok (.iload_n 2, 1) by decide +kernel) rfl (lv_at hl 0 rfl) ?_
        obtain ⟨v1, v2⟩ := ab_idx (x := ((i : Nat) : Int)) (n := 232) (by omega) (by omega) (by decide)
        refine va_iald hx hb hKK hP 96 0 (ab_WD_get (sp := .inr (0, 232)) (by rfl)) rfl v1 (show decode prog_14_method_39_code 142 = .ok (.iaload, 1) by decide +kernel) ?_
        rw [v2, Int.toNat_natCast]
        rw [nl_st_src (by decide)]
        refine lv_goto (tgt := 147) hx hb (show decode prog_14_method_39_code 143 = .ok (.goto 4, 3) by decide +kernel) (by decide) ?_
        exact fin _ (by rw [if_pos h3])
def nl_str (p : Nat × Nat) : Nat × Nat := cond (p.1.beq 95 && (p.2 + 1).ble 474) (cond ((p.2 + 1).ble 232) (96, p.2) (1000, 0)) p
theorem nl_st_rn {σ : ab_SG} : ∀ p, ab_pv (nl_st σ 474) p = ab_pv σ (nl_str p) := by
  intro p
  unfold nl_str
  cases hc : (p.1.beq 95 && (p.2 + 1).ble 474) with
  | true =>
    rw [Bool.and_eq_true] at hc
    have h1 := ab_beq hc.1
    have h2 := Nat.le_of_ble_eq_true hc.2
    have e1 : p.1.beq 1000 = false := by rw [h1]; rfl
    have e2 : ab_pv (nl_st σ 474) p = if p.2 < 232 then σ 96 p.2 else 0 := by
      unfold ab_pv
      rw [e1]
      exact if_pos ⟨h1, by omega⟩
    rw [e2]
    cases hd : (p.2 + 1).ble 232 with
    | true => rw [if_pos (show p.2 < 232 from Nat.le_of_ble_eq_true hd)]; rfl
    | false =>
      rw [if_neg (fun q => by rw [Nat.ble_eq_true_of_le (show p.2 + 1 ≤ 232 from q)] at hd; cases hd)]
      rfl
  | false =>
    unfold ab_pv
    show cond (p.1.beq 1000) 0 (nl_st σ 474 p.1 p.2) = cond (p.1.beq 1000) 0 (σ p.1 p.2)
    congr 1
    refine if_neg (fun q => ?_)
    rw [show p.1.beq 95 = true by rw [q.1]; rfl, Nat.ble_eq_true_of_le (show p.2 + 1 ≤ 474 from q.2)] at hc
    cases hc
def nl_ser (p : Nat × Nat) : Nat × Nat := cond (p.1.beq 95 && p.2.beq 233) (93, 62) (nc_rn 95 234 121 0 240 p)
theorem nl_se_rn {σ : ab_SG} : ∀ p, ab_pv (nc_cp (ab_ups σ 95 233 (σ 93 62)) 95 234 121 0 240) p = ab_pv σ (nl_ser p) := by
  intro p
  rw [nc_cp_rn (by decide) (by decide)]
  unfold nl_ser
  cases hc : (p.1.beq 95 && p.2.beq 233) with
  | true =>
    rw [Bool.and_eq_true] at hc
    obtain ⟨p1, p2⟩ := p
    have h1 : p1 = 95 := ab_beq hc.1
    have h2 : p2 = 233 := ab_beq hc.2
    subst h1; subst h2
    rfl
  | false =>
    show ab_pv (ab_ups σ 95 233 (σ 93 62)) (nc_rn 95 234 121 0 240 p) = ab_pv σ (nc_rn 95 234 121 0 240 p)
    have key : ∀ q : Nat × Nat, ¬ (q.1 = 95 ∧ q.2 = 233) → ab_pv (ab_ups σ 95 233 (σ 93 62)) q = ab_pv σ q := fun q h => ab_pv_no h
    refine key _ (fun q => ?_)
    unfold nc_rn at q
    cases hd : (p.1.beq 95 && (234 : Nat).ble p.2 && (p.2 + 1).ble (234 + 240)) with
    | true =>
      rw [hd] at q
      have q1 : (121 : Nat) = 95 := q.1
      exact absurd q1 (by decide)
    | false =>
      rw [hd] at q
      have q1 : p.1 = 95 := q.1
      have q2 : p.2 = 233 := q.2
      rw [q1, q2] at hc
      cases hc
set_option maxHeartbeats 4000000 in
theorem nl_sent0 {dt : ab_DT} {σ9 : ab_SG} (hE : ab_Ev p l s m args meth c prog_14_method_147_code 2 lev R cy ad wr cr D vwCl nn_sh nn_T nn_C "NameNotesModel" A H0 Ts nn_TT nn_NW nn_MT KI KJ (nn_PF20.map (fun x => x.1)) nn_kd PS PM KS sc n0 ρ0 cells slots dt σ9) {σ : ab_SG} {H : Heap} {locs : List Loc} {ls : Array Slot} (hl : lv_has ls 2 [(0, .ref (ad 93))]) (hP : va_P D vwCl (ab_WD cy ad wr nn_sh σ) H) (hS : va_S A H0 H locs)
    (kk : ∀ (H : Heap) (locs : List Loc) (ls : Array Slot), lv_has ls 2 [(1, .int (Int32.ofInt ((0 : Nat) : Int))), (0, .ref (ad 93))] → va_P D vwCl (ab_WD cy ad wr nn_sh (ab_ups σ 95 233 (σ 93 62))) H → va_S A H0 H locs → W p l e R s m args below meth c H locs cells slots Q (F0 m 79 ls [])) : W p l e R s m args below meth c H locs cells slots Q (F0 m 65 ls []) := by
  obtain ⟨hx, hb, hml, hown, hts, hKK, hN, hTT, hcode, hA, hA2, hPM, hKS, hR, hKI, hKJ, hPF, hD, -⟩ := hE
  refine lv_aload_n hx hb (show decode prog_14_method_147_code 65 = .ok (.aload_n 0, 1) by decide +kernel) rfl (lv_at hl 0 rfl) ?_
  refine ab_getf_ok (k := 93) (ci := 11) (j := 14) (ty := 0) (fs := nl_fs) (f := (2, 95)) hx hb hown hts hKK hPF (x := 13) (by decide +kernel) nl_sh (by decide +kernel) (show decode prog_14_method_147_code 66 = .ok (.getfield 13, 3) by decide +kernel) hP ?_
  refine lv_sipush (v := Int32.ofInt ((233 : Nat) : Int)) hx hb (show decode prog_14_method_147_code 69 = .ok (.sipush 233, 3) by decide +kernel) (by decide) ?_
  refine lv_aload_n hx hb (show decode prog_14_method_147_code 72 = .ok (.aload_n 0, 1) by decide +kernel) rfl (lv_at hl 0 rfl) ?_
  refine ab_getf_ok (k := 93) (ci := 11) (j := 62) (ty := 0) (fs := nl_fs) (f := (0, 0)) hx hb hown hts hKK hPF (x := 495) (by decide +kernel) nl_sh (by decide +kernel) (show decode prog_14_method_147_code 73 = .ok (.getfield 495, 3) by decide +kernel) hP ?_
  obtain ⟨w1, w2⟩ := ab_idx (x := ((233 : Nat) : Int)) (n := 474) (by omega) (by omega) (by decide)
  refine va_iast hx hb hKK hP (hD _) hS 95 0 (ab_WD_get (sp := .inr (0, 474)) (by rfl)) rfl w1 (show decode prog_14_method_147_code 76 = .ok (.iastore, 1) by decide +kernel) (fun H1 locs1 hP1 _ hS1 => ?_)
  have hP1 : va_P D vwCl (ab_WD cy ad wr nn_sh (ab_ups σ 95 233 (σ 93 62))) H1 := by
    rw [ab_WD_set (σ' := ab_ups (σ) 95 (233) (σ 93 62)) (sp := .inr (0, 474)) (by rfl) ?_ (fun a ha9 => ab_ups_row ha9)] at hP1
    · skip; exact hP1
    · show _ = Sum.inl (cy 0, (474, Sum.inl (fun j => Int32.ofInt (ab_ups (σ) 95 (233) (σ 93 62) 95 j))))
      rw [ab_row32, w2, Int.toNat_natCast]
  refine lv_iconst (v := Int32.ofInt ((0 : Nat) : Int)) hx hb (show decode prog_14_method_147_code 77 = .ok (.iconst 0, 1) by decide +kernel) (by decide) ?_
  refine lv_istore_n (lv' := [(1, .int (Int32.ofInt ((0 : Nat) : Int))), (0, .ref (ad 93))]) hx hb (show decode prog_14_method_147_code 78 = .ok (.istore_n 1, 1) by decide +kernel) rfl hl (by decide) rfl (fun ls hl => ?_)
  exact kk H1 locs1 ls hl hP1 hS1
end
end
section
/-! ===== BEGIN words of one list among another's, by their places ===== -/
/-! ===== END ===== -/
/-! ===== BEGIN exceptions that leave a method, and their catching by the caller (launches without stack traces) ===== -/
section VXA
/-! The laws vx_back, vx_callV, vx_callS, vx_callSW, vx_throw0, vx_throwS follow proofs of the library, with one case more: JvmDerived/Free/Laws.lean (Back.of_free), Shelf42/LK1.lean (callV, callS), Shelf/KitTraced.lean (throwNew0V, throwNewS). -/
/-- where a method has thrown q: the class by its name, the cell, what was written, the world -/
def vx_T (XC : String → State → State → Prop) (st : State) (q : Addr) (t : State) (mc ms : Nat) (free : Addr → Prop) : Prop :=
  ∃ (E : String) (ce : Cell) (L : List Loc), XC E st t ∧ t.heap[q]? = some ce ∧ ce.vm = .none ∧ st.vm.findClass E = some ce.cls ∧ st.WarmedH t.vm ∧ st.sameButNew ({ t with vm := st.vm } : State) L mc ms ∧ ∀ z ∈ L, free z.base
def vx_Q (Qc : Array Value → State → Outcome → State → Prop) (XC : String → State → State → Prop) (mc ms : Nat) (free : Addr → Prop) : Array Value → State → Outcome → State → Prop := fun a st o t =>
  (Qc a st o t ∧ ∃ L, FrameEnd st o t L mc ms ∧ ∀ q ∈ L, free q.base) ∨ ∃ q, o = .threw q ∧ vx_T XC st q t mc ms free
/-- a callee that returns or throws -/
def vx_Met (l : Launch) (y : MethodName) (ws : List Cond) (rm : Room) (Pc : Array Value → State → Prop) (Qc : Array Value → State → Outcome → State → Prop) (XC : String → State → State → Prop) (mc ms : Nat) (free : Addr → Prop) : Prop :=
  MetFree l y (headSpec ws rm) Pc (fun _ _ _ _ _ => True) (vx_Q Qc XC mc ms free)
def vx_Post (XC : String → State → State → Prop) (mc ms : Nat) (free : Addr → Prop) : Pt → Array Value → Addr → Pt → Prop := fun A a q B =>
  ∃ (g : JFrame) (mk : MethodId) (t : State) (L : List Loc) (E : String) (ce : Cell), B.U.heap = t.heap ∧ B.U.vm = t.vm ∧ XC E (A.U.calling g mk a) t ∧ t.heap[q]? = some ce ∧ ce.vm = .none ∧ A.U.vm.findClass E = some ce.cls ∧ B.locs = A.locs ++ L ∧ (∀ z ∈ L, free z.base) ∧ B.cells = A.cells + mc ∧ B.slots = A.slots + ms
def vx_Back (l : Launch) (R : Room) (p : Program) (e : Env) (below : List Frame) (s : State) (sargs : Array Value) (y : MethodName) (len W9 : Nat)
    (Pre : Pt → Array Value → Prop) (Post : Pt → Array Value → Option Value → Pt → Prop) (PostX : Pt → Array Value → Addr → Pt → Prop) : Prop :=
  ∀ (m : MethodId) (meth : Method) (c : Code) (A : Pt) (g : JFrame) (ig : Instr) (mk : MethodId) (a : Array Value),
    Stand p l e R s m sargs below meth c A.U A.locs A.cells A.slots → g.method = m → g.locals.size = c.maxLocals → decode c.code g.pc = .ok (ig, len) →
    2 * g.monitorRoom + (g.stack.map fun v => v.category).sum ≤ W9 → A.U.methodNamed? y = some mk → Pre A a →
    (∃ (v : Option Value) (B : Pt), Stand p l e R s m sargs below meth c B.U B.locs B.cells B.slots ∧ Post A a v B ∧
      Steps p.tables e below (doInvoke e (A.U.setTop g) [] mk a).1 (B.U.setTop { g with pc := g.pc + len, stack := v.toList ++ g.stack })) ∨
    (∃ (q : Addr) (B : Pt), Stand p l e R s m sargs below meth c B.U B.locs B.cells B.slots ∧ PostX A a q B ∧
      Steps p.tables e below (doInvoke e (A.U.setTop g) [] mk a).1 ((B.U.setTop g).pushFrame (.throwing q)))
section Payer
variable {l : Launch} {R : Room} {p : Program} {e : Env} {below : List Frame} {s : State} {sargs : Array Value} {y : MethodName} {len W9 : Nat}
theorem vx_back {ws : List Cond} {rm : Room} {Pc : Array Value → State → Prop} {Qc : Array Value → State → Outcome → State → Prop} {XC : String → State → State → Prop} {mc ms : Nat} {free : Addr → Prop} {bytes : ByteArray} {maxL : Nat} {ret : Option FieldType}
    (hM : vx_Met l y ws rm Pc Qc XC mc ms free) (hblind : FrameBlind Pc) (hrc : rm.cells = mc) (hrs : rm.slots = ms)
    (hframes : rm.frames + 1 ≤ R.frames) (hlocals : W9 + (maxL + 11) + rm.locals ≤ R.locals)
    (hws : ∀ w ∈ ws, ∀ a' U, s.WarmedH U.vm → w.before a' U = true) (hcode : Cond.code y bytes maxL ret ∈ ws) (hinit : ∀ a' U, s.WarmedH U.vm → (Cond.initialized y.cls).before a' U = true) :
    vx_Back l R p e below s sargs y len W9 (PreOf R mc ms Pc) (PostOf Qc mc ms free) (vx_Post XC mc ms free) := by
  intro m meth c A g ig mk a X hg hsize hdg hW hn hp
  have h1 : (headSpec ws rm).pre.before a A.U = true := atoms_intro fun w hw => hws w hw _ _ X.warmed
  have h2 : (Cond.code y bytes maxL ret).before a A.U = true := hws _ hcode _ _ X.warmed
  have h3 : (Cond.initialized y.cls).before a A.U = true := hinit _ _ X.warmed
  have h4 : A.cells + (headSpec ws rm).room.cells ≤ R.cells := by rw [show (headSpec ws rm).room.cells = mc from hrc]; exact hp.1
  have h5 : A.slots + (headSpec ws rm).room.slots ≤ R.slots := by rw [show (headSpec ws rm).room.slots = ms from hrs]; exact hp.2.1
  have hPc : Pc a (A.U.calling g mk a) := hblind _ _ _ _ hp.2.2
  obtain ⟨U, Ls, c0, s0⟩ := A
  dsimp only [Pt.U, Pt.locs, Pt.cells, Pt.slots] at h1 h2 h3 h4 h5 X hn hPc ⊢
  obtain ⟨methY, cY, hmY, hcY, -, hlY, -, -, -, -⟩ := Cond.code_spec hn h2
  obtain ⟨kY, hkY, -⟩ := className_of_methodNamed hn
  have hinitY : kY.init = .initialized := Cond.initialized_spec (findClass_of_methodNamed hn) hkY h3
  have h : At U g.method c below := by rw [hg]; exact X.here
  have hlocals9 : W9 + (maxL + 11) + (headSpec ws rm).room.locals ≤ R.locals := hlocals
  have happ : (headSpec ws rm).appliesLoose y e.platform (U.calling g mk a) = true :=
    Spec.appliesLoose_calling (g := g) h hdg hn hkY hinitY
      (X.room_calling (g := g) (R' := (headSpec ws rm).room) hsize hmY hcY hframes (by rw [hlY]; omega) h4 h5) h1
  obtain ⟨mid, hmid⟩ := h.above
  have hfr : (U.setTop g).frames = (.java g :: mid) ++ below := by rw [State.frames_setTop' g h.top, hmid]; rfl
  obtain ⟨o, s₂, hsteps, -, hend, hq⟩ := Steps.callFree hM p X.admits X.cas X.clock (acts := []) hfr happ hPc trivial
  have hq' : vx_Q Qc XC mc ms free a (U.calling g mk a) o s₂ := hq
  rw [State.frames_setTop' g h.top] at hend
  obtain ⟨g₀, hg0⟩ := Option.isSome_iff_exists.mp h.top
  obtain ⟨r, hr⟩ := State.topJava?_eq_some.mp hg0
  have hr' : (({ U with heap := s₂.heap, slotsUsed := s₂.slotsUsed } : State).setVm s₂.vm).frames = .java g₀ :: r := hr
  rcases hq' with ⟨hqc, L, hfe, hL⟩ | ⟨q, rfl, E, ce, L, hx, hce, hcv, hcl, hW₂, hsm, hL⟩
  · obtain ⟨⟨v, rfl⟩, hW₂, e2, q2, q3, q4, q5, q6⟩ := id hfe
    have e3 : s₂ = ({ (U.calling g mk a).setFrames s₂.frames with heap := s₂.heap, slotsUsed := s₂.slotsUsed } : State).setVm s₂.vm := by
      have : s₂ = ({ s₂ with vm := (U.calling g mk a).vm } : State).setVm s₂.vm := rfl
      rw [e2] at this
      exact this
    obtain ⟨c₂, i₂, len₂, hc₂, hd₂, hf₂⟩ := hend
    have hW' : U.WarmedH s₂.vm := hW₂
    have hcc : c₂ = c := by
      have h1 : s₂.code? g.method = U.code? g.method := by
        rw [State.code?_eq, State.code?_eq, hW'.alike.method?]
      exact Option.some.inj (hc₂.symm.trans (h1.trans h.code))
    subst hcc
    have hlen : len₂ = len := by rw [hdg] at hd₂; cases hd₂; rfl
    subst hlen
    have hs₂ : s₂ = (({ U with heap := s₂.heap, slotsUsed := s₂.slotsUsed } : State).setVm s₂.vm).setTop { g with pc := g.pc + len₂, stack := v.toList ++ g.stack } := by
      refine e3.trans ?_
      rw [hf₂, State.calling_eq h.top, State.setFrames_setFrames, State.setTop_of_frames _ hr', hr]
      rfl
    have hsame : U.sameButNew ({ U with heap := s₂.heap, slotsUsed := s₂.slotsUsed } : State) L mc ms := by
      refine ⟨?_, q2, q3, q4, q5, q6⟩
      obtain ⟨t, ht, -⟩ := State.frames_cons hr
      show ({ U with heap := s₂.heap, slotsUsed := s₂.slotsUsed } : State) = { U.setFrames U.frames with heap := s₂.heap, slotsUsed := s₂.slotsUsed }
      rw [State.setFrames_self ht]
    subst hg
    refine Or.inl ⟨v, ⟨(({ U with heap := s₂.heap, slotsUsed := s₂.slotsUsed } : State).setVm s₂.vm), Ls ++ L, c0 + mc, s0 + ms⟩,
      ⟨X.admits, X.cas, X.clock, X.frames, X.room, X.hears, X.method, X.code, (X.here.setHeapUsed s₂.heap s₂.slotsUsed).setVm hW'.alike, X.tail, State.WarmedH.trans X.warmed hW', X.limits, X.bytes, X.same.trans (hsame.setVm s.vm)⟩,
      ⟨g, mk, s₂, L, rfl, rfl, hqc, rfl, hL, rfl, rfl⟩, ?_⟩
    show Steps p.tables e below _ ((({ U with heap := s₂.heap, slotsUsed := s₂.slotsUsed } : State).setVm s₂.vm).setTop { g with pc := g.pc + len₂, stack := v.toList ++ g.stack })
    rw [← hs₂]
    exact hsteps
  · obtain ⟨e2, q2, q3, q4, q5, q6⟩ := id hsm
    have e3 : s₂ = ({ (U.calling g mk a).setFrames s₂.frames with heap := s₂.heap, slotsUsed := s₂.slotsUsed } : State).setVm s₂.vm := by
      have : s₂ = ({ s₂ with vm := (U.calling g mk a).vm } : State).setVm s₂.vm := rfl
      rw [e2] at this
      exact this
    have hf₂ : s₂.frames = .throwing q :: .java g :: U.frames.tail := hend
    have hW' : U.WarmedH s₂.vm := hW₂
    have hs₂ : s₂ = ((({ U with heap := s₂.heap, slotsUsed := s₂.slotsUsed } : State).setVm s₂.vm).setTop g).pushFrame (.throwing q) := by
      refine e3.trans ?_
      rw [hf₂, State.calling_eq h.top, State.setFrames_setFrames, State.pushFrame, State.frames_setTop _ hr', State.setTop_of_frames _ hr', State.setFrames_setFrames, hr]
      rfl
    have hsame : U.sameButNew ({ U with heap := s₂.heap, slotsUsed := s₂.slotsUsed } : State) L mc ms := by
      refine ⟨?_, q2, q3, q4, q5, q6⟩
      obtain ⟨t, ht, -⟩ := State.frames_cons hr
      show ({ U with heap := s₂.heap, slotsUsed := s₂.slotsUsed } : State) = { U.setFrames U.frames with heap := s₂.heap, slotsUsed := s₂.slotsUsed }
      rw [State.setFrames_self ht]
    subst hg
    refine Or.inr ⟨q, ⟨(({ U with heap := s₂.heap, slotsUsed := s₂.slotsUsed } : State).setVm s₂.vm), Ls ++ L, c0 + mc, s0 + ms⟩,
      ⟨X.admits, X.cas, X.clock, X.frames, X.room, X.hears, X.method, X.code, (X.here.setHeapUsed s₂.heap s₂.slotsUsed).setVm hW'.alike, X.tail, State.WarmedH.trans X.warmed hW', X.limits, X.bytes, X.same.trans (hsame.setVm s.vm)⟩,
      ⟨g, mk, s₂, L, E, ce, rfl, rfl, hx, hce, hcv, hcl, rfl, hL, rfl, rfl⟩, ?_⟩
    show Steps p.tables e below _ (((({ U with heap := s₂.heap, slotsUsed := s₂.slotsUsed } : State).setVm s₂.vm).setTop g).pushFrame (.throwing q))
    rw [← hs₂]
    exact hsteps
end Payer
section Calls
variable {p : Program} {l : Launch} {e : Env} {R : Room} {s : State} {m : MethodId} {args : Array Value} {below : List Frame} {meth : Method} {c : Code} {T : State} {locs : List Loc} {cells slots : Nat}
theorem vx_callV (X : Stand p l e R s m args below meth c T locs cells slots) (hexec : p.tables.exec = Jvm.exec) {own C : String} {index : Nat} {y : MethodName} {bytes : ByteArray} {maxL : Nat} {ret : Option FieldType}
    (hown : s.vm.findClass own = some m.cls) (hlink : (Cond.methodLink own index y).before args s = true) (hinst : (Cond.instanceMethod y).before args s = true) (hsel : (Cond.selects C y y).before args s = true)
    (hcode : (Cond.code y bytes maxL ret).before args s = true) (hy : y.cls ≠ "java/lang/invoke/MethodHandle" ∧ y.cls ≠ "java/lang/invoke/VarHandle")
    {W9 : Nat} {Pre : Pt → Array Value → Prop} {Post : Pt → Array Value → Option Value → Pt → Prop} {PostX : Pt → Array Value → Addr → Pt → Prop} (hK : vx_Back l R p e below s args y 3 W9 Pre Post PostX)
    {b : Addr} {cellB : Cell} (hcell : T.heap[b]? = some cellB) (hobj : cellB.vm.isStatics = false) (hcls : s.vm.findClass C = some cellB.cls)
    {g : JFrame} (hg : g.method = m) (hsize : g.locals.size = c.maxLocals) {argsL rest : List Value} (hlen : ∀ sig, parseMethodDescriptor y.desc = some sig → argsL.length = sig.parameters.length)
    (hstack : g.stack = argsL.reverse ++ .ref b :: rest) (hW : 2 * g.monitorRoom + (rest.map fun v => v.category).sum ≤ W9) (hdg : decode c.code g.pc = .ok (.invokevirtual index, 3))
    (hpre : ∀ vm₁, s.WarmedH vm₁ → Pre ⟨T.setVm vm₁, locs, cells, slots⟩ (Value.ref b :: argsL).toArray) :
    (∃ (v : Option Value) (vm₁ : Vm) (B : Pt), s.WarmedH vm₁ ∧ Stand p l e R s m args below meth c B.U B.locs B.cells B.slots ∧ Post ⟨T.setVm vm₁, locs, cells, slots⟩ (Value.ref b :: argsL).toArray v B ∧
      ∀ target, Steps p.tables e below (B.U.setTop { g with pc := g.pc + 3, stack := v.toList ++ rest }) target → Steps p.tables e below (T.setTop g) target) ∨
    (∃ (q : Addr) (vm₁ : Vm) (B : Pt), s.WarmedH vm₁ ∧ Stand p l e R s m args below meth c B.U B.locs B.cells B.slots ∧ PostX ⟨T.setVm vm₁, locs, cells, slots⟩ (Value.ref b :: argsL).toArray q B ∧
      Steps p.tables e below (T.setTop g) ((B.U.setTop { g with stack := rest }).pushFrame (.throwing q))) := by
  obtain ⟨mk, methM, hnamed, hmethM, hstM, habM⟩ := Cond.instanceMethod_spec hinst
  obtain ⟨methM', cM, hmethM', -, -, -, -, -, -, hsigM⟩ := Cond.code_spec hnamed hcode
  cases hmethM.symm.trans hmethM'
  obtain ⟨c2, r2, m2, q1, q2, q3, q4, kP, hkP, hkPi⟩ := Cond.selects_spec hsel
  cases hcls.symm.trans q1
  cases (State.methodFound?_of_named hnamed hy).symm.trans q2
  cases hnamed.symm.trans q3
  have hselP : selectMethod e.platform s.vm cellB.cls mk = .method mk := by rw [Launch.admits_selectMethod X.admits]; exact q4
  obtain ⟨vm₁, X₁, hstep₁⟩ := X.invokevirtual hexec hown hlink hnamed hmethM hstM hkP hkPi hy (a := b) (cell := cellB) hcell
    (fun z h => by rw [h] at hobj; cases hobj) hselP hmethM habM hkP hkPi (g := g) hg (argsL := argsL) (rest := rest) (hlen _ hsigM) hstack hdg
  rcases hK m meth c ⟨T.setVm vm₁, locs, cells, slots⟩ { g with stack := rest } (.invokevirtual index) mk (Value.ref b :: argsL).toArray X₁ hg hsize hdg hW (X₁.named hnamed) (hpre vm₁ X₁.warmed) with ⟨v, B, X', hpost, hsteps⟩ | ⟨q, B, X', hpost, hsteps⟩
  · exact Or.inl ⟨v, vm₁, B, X₁.warmed, X', hpost, fun target h => hstep₁ _ fun acts => by rw [doInvoke_state]; exact hsteps.trans h⟩
  · exact Or.inr ⟨q, vm₁, B, X₁.warmed, X', hpost, hstep₁ _ fun acts => by rw [doInvoke_state]; exact hsteps⟩
theorem vx_callS (X : Stand p l e R s m args below meth c T locs cells slots) (hexec : p.tables.exec = Jvm.exec) {own : String} {index : Nat} {y : MethodName} {bytes : ByteArray} {maxL : Nat} {ret : Option FieldType}
    (hown : s.vm.findClass own = some m.cls) (hlink : (Cond.methodLink own index y).before args s = true) (hstat : (Cond.static y).before args s = true) (hinit : (Cond.initialized y.cls).before args s = true)
    (hcode : (Cond.code y bytes maxL ret).before args s = true) (hy : y.cls ≠ "java/lang/invoke/MethodHandle" ∧ y.cls ≠ "java/lang/invoke/VarHandle")
    {W9 : Nat} {Pre : Pt → Array Value → Prop} {Post : Pt → Array Value → Option Value → Pt → Prop} {PostX : Pt → Array Value → Addr → Pt → Prop} (hK : vx_Back l R p e below s args y 3 W9 Pre Post PostX)
    {g : JFrame} (hg : g.method = m) (hsize : g.locals.size = c.maxLocals) {argsL rest : List Value} (hlen : ∀ sig, parseMethodDescriptor y.desc = some sig → argsL.length = sig.parameters.length)
    (hstack : g.stack = argsL.reverse ++ rest) (hW : 2 * g.monitorRoom + (rest.map fun v => v.category).sum ≤ W9) (hdg : decode c.code g.pc = .ok (.invokestatic index, 3))
    (hpre : ∀ vm₁, s.WarmedH vm₁ → Pre ⟨T.setVm vm₁, locs, cells, slots⟩ argsL.toArray) :
    (∃ (v : Option Value) (vm₁ : Vm) (B : Pt), s.WarmedH vm₁ ∧ Stand p l e R s m args below meth c B.U B.locs B.cells B.slots ∧ Post ⟨T.setVm vm₁, locs, cells, slots⟩ argsL.toArray v B ∧
      ∀ target, Steps p.tables e below (B.U.setTop { g with pc := g.pc + 3, stack := v.toList ++ rest }) target → Steps p.tables e below (T.setTop g) target) ∨
    (∃ (q : Addr) (vm₁ : Vm) (B : Pt), s.WarmedH vm₁ ∧ Stand p l e R s m args below meth c B.U B.locs B.cells B.slots ∧ PostX ⟨T.setVm vm₁, locs, cells, slots⟩ argsL.toArray q B ∧
      Steps p.tables e below (T.setTop g) ((B.U.setTop { g with stack := rest }).pushFrame (.throwing q))) := by
  obtain ⟨mk, hnamed⟩ := Cond.code_named hcode
  obtain ⟨methM, cM, hmethM, -, -, -, -, -, -, hsigM⟩ := Cond.code_spec hnamed hcode
  have hstatic : methM.isStatic = true := Cond.static_spec hnamed hmethM hstat
  obtain ⟨kP, hkP, -⟩ := className_of_methodNamed hnamed
  have hinitP : kP.init = .initialized := Cond.initialized_spec (findClass_of_methodNamed hnamed) hkP hinit
  obtain ⟨vm₁, X₁, hstep₁⟩ := X.invokestatic hexec hown hlink hnamed hmethM hstatic hkP hinitP hy (g := g) hg (argsL := argsL) (rest := rest) (hlen _ hsigM) hstack hdg
  rcases hK m meth c ⟨T.setVm vm₁, locs, cells, slots⟩ { g with stack := rest } (.invokestatic index) mk argsL.toArray X₁ hg hsize hdg hW (X₁.named hnamed) (hpre vm₁ X₁.warmed) with ⟨v, B, X', hpost, hsteps⟩ | ⟨q, B, X', hpost, hsteps⟩
  · exact Or.inl ⟨v, vm₁, B, X₁.warmed, X', hpost, fun target h => hstep₁ _ fun acts => by rw [doInvoke_state]; exact hsteps.trans h⟩
  · exact Or.inr ⟨q, vm₁, B, X₁.warmed, X', hpost, hstep₁ _ fun acts => by rw [doInvoke_state]; exact hsteps⟩
end Calls
theorem vx_cls {s : State} {T : State} {vm₁ : Vm} {E : String} {k : ClassId} (hW : s.WarmedH vm₁) (h : (T.setVm vm₁).vm.findClass E = some k) : s.vm.findClass E = some k := by
  have h1 : vm₁.findClass E = some k := h
  rw [hW.alike.findClass] at h1
  exact h1
/-- the method's frame g, with q thrown over it -/
def vx_W (p : Program) (l : Launch) (e : Env) (R : Room) (s : State) (m : MethodId) (args : Array Value) (below : List Frame) (meth : Method) (c : Code) (H : Heap) (locs : List Loc) (cells slots : Nat) (Q : State → Prop) (g : JFrame) (q : Addr) : Prop :=
  ∀ T : State, T.heap = H → Stand p l e R s m args below meth c T locs cells slots → ∃ t, Steps p.tables e below ((T.setTop g).pushFrame (.throwing q)) t ∧ Q t
def vx_Run (p : Program) (l : Launch) (e : Env) (R : Room) (s : State) (m : MethodId) (args : Array Value) (below : List Frame) (meth : Method) (c : Code) (H : Heap) (locs : List Loc) (cells slots mc ms : Nat) (g : JFrame) (rest : List Value) (Qa : State → Outcome → State → Prop) (XC : String → State → State → Prop) (free : Addr → Prop) : Prop :=
  ∀ T : State, T.heap = H → Stand p l e R s m args below meth c T locs cells slots →
    (∃ (v : Option Value) (st₀ t T' : State) (L : List Loc), st₀.heap = H ∧ Stand p l e R s m args below meth c T' (locs ++ L) (cells + mc) (slots + ms) ∧ (∀ q ∈ L, free q.base) ∧ T'.heap = t.heap ∧ T'.vm = t.vm ∧ Qa st₀ (.returned v) t ∧
      Goes p e below T g T' { g with pc := g.pc + 3, stack := v.toList ++ rest }) ∨
    (∃ (q : Addr) (st₀ t T' : State) (L : List Loc) (E : String) (ce : Cell), st₀.heap = H ∧ Stand p l e R s m args below meth c T' (locs ++ L) (cells + mc) (slots + ms) ∧ (∀ z ∈ L, free z.base) ∧ T'.heap = t.heap ∧ T'.vm = t.vm ∧ XC E st₀ t ∧ t.heap[q]? = some ce ∧ ce.vm = .none ∧ s.vm.findClass E = some ce.cls ∧
      Steps p.tables e below (T.setTop g) ((T'.setTop { g with stack := rest }).pushFrame (.throwing q)))
section Runs
variable {p : Program} {l : Launch} {e : Env} {R : Room} {s : State} {m : MethodId} {args : Array Value} {below : List Frame} {meth : Method} {c : Code} {H : Heap} {locs : List Loc} {cells slots : Nat}
variable {y : MethodName} {bytes cc : ByteArray} {maxL nL mc ms n index : Nat} {ret : Option FieldType} {ws : List Cond} {rm : Room} {Pc : Array Value → State → Prop} {Qc : Array Value → State → Outcome → State → Prop} {XC : String → State → State → Prop} {free : Addr → Prop} {Ts : List Cond} {own C : String} {b : Addr} {As rest : List Value} {g : JFrame}
theorem vx_callBack (cb : CallB R s args own index y bytes maxL ret ws rm mc ms n) (hM : vx_Met l y ws rm Pc Qc XC mc ms free) (hbl : FrameBlind Pc) : vx_Back l R p e below s args y 3 8 (PreOf R mc ms Pc) (PostOf Qc mc ms free) (vx_Post XC mc ms free) := by
  obtain ⟨hrc, hrs, hfr, hlo, hws, hcw, -, hini, -⟩ := cb
  exact vx_back (bytes := bytes) (maxL := maxL) (ret := ret) hM hbl hrc hrs hfr hlo hws hcw (fun a' U hW => word_at hW (Or.inl (by first | rfl | simp [Cond.onTables, Cond.keeps, Cond.steady])) hini)
theorem vx_runV (S : CallFix p m c cc nL s args Ts own) (hM : vx_Met l y ws rm Pc Qc XC mc ms free) (cw : CallW R s args own C index y bytes maxL ret ws rm mc ms n) (hp : PreV s H C b Pc As)
    (hg : g.method = m) (hn : As.length = n) (hsize : g.locals.size = nL) (hstack : g.stack = As.reverse ++ .ref b :: rest) (hW : 2 * g.monitorRoom + (rest.map fun v => v.category).sum ≤ 8) (hdg : decode cc g.pc = .ok (.invokevirtual index, 3)) (hf : cells + mc ≤ R.cells ∧ slots + ms ≤ R.slots) :
    vx_Run p l e R s m args below meth c H locs cells slots mc ms g rest (Qc (Value.ref b :: As).toArray) XC free := by
  have hK : vx_Back l R p e below s args y 3 8 (PreOf R mc ms Pc) (PostOf Qc mc ms free) (vx_Post XC mc ms free) := vx_callBack cw.1 hM hp.1
  obtain ⟨⟨-, -, -, -, -, -, hcode, -, hy, hlen, hl⟩, hin, hse⟩ := cw
  obtain ⟨hx, hb, hml, ho, -⟩ := S
  obtain ⟨-, ⟨cellB, hcB, hoB, hclB⟩, hPc⟩ := hp
  intro T hT X
  rcases vx_callV X hx (C := C) (bytes := bytes) (maxL := maxL) (ret := ret) ho hl hin hse hcode hy hK (by rw [hT]; exact hcB) hoB hclB hg (hsize.trans hml.symm) (argsL := As) (rest := rest) (fun sig h => hn.trans (hlen sig h)) hstack hW (by rw [hb]; exact hdg)
    (fun vm₁ hW₁ => ⟨hf.1, hf.2, hPc (T.setVm vm₁) hT hW₁⟩) with ⟨v, vm₁, ⟨U', l2, c2, s2⟩, hW₁, X', ⟨g', mk, t, L, e1, e2, hq, h1, hL, h2, h3⟩, st⟩ | ⟨q, vm₁, ⟨U', l2, c2, s2⟩, hW₁, X', ⟨g', mk, t, L, E, ce, e1, e2, hq, hce, hcv, hcl, h1, hL, h2, h3⟩, st⟩
  · dsimp only [Pt.U, Pt.locs, Pt.cells, Pt.slots] at X' e1 e2 h1 h2 h3 st
    subst h1; subst h2; subst h3
    exact Or.inl ⟨v, (T.setVm vm₁).calling g' mk (Value.ref b :: As).toArray, t, U', L, hT, X', hL, e1, e2, hq, st⟩
  · dsimp only [Pt.U, Pt.locs, Pt.cells, Pt.slots] at X' e1 e2 h1 h2 h3 st hcl
    subst h1; subst h2; subst h3
    exact Or.inr ⟨q, (T.setVm vm₁).calling g' mk (Value.ref b :: As).toArray, t, U', L, E, ce, hT, X', hL, e1, e2, hq, hce, hcv, vx_cls hW₁ hcl, st⟩
end Runs
section Rows
variable {p : Program} {l : Launch} {e : Env} {R : Room} {s : State} {m : MethodId} {args : Array Value} {below : List Frame} {meth : Method} {c : Code} {H : Heap} {locs : List Loc} {cells slots : Nat} {Q : State → Prop}
variable {mc ms : Nat} {free : Addr → Prop} {A0 A1 : Nat → Prop} {H0 : Heap} {a : Array Value} {pc : Nat} {ls : Array Slot} {st0 rest : List Value}
theorem vx_keep {st₀ t T' : State} {L : List Loc} (h0 : st₀.heap = H) (e1 : T'.heap = t.heap) (hS : va_S A0 H0 H locs) (hA : ∀ q, q < H.size → A1 q → A0 q) (hf : ∀ q, free q → A0 q) (hL : ∀ q ∈ L, free q.base) (hF : va_F A1 st₀ t) :
    H.size ≤ T'.heap.size ∧ (∀ q : Nat, q < H.size → ¬ A1 q → T'.heap[q]? = H[q]?) ∧ va_S A0 H0 T'.heap (locs ++ L) := by
  obtain ⟨hz, hk⟩ := hF
  rw [h0] at hz hk
  exact ⟨by rw [e1]; exact hz, fun q h1 h2 => by rw [e1]; exact hk q h1 h2,
    ⟨Nat.le_trans hS.1 (by rw [e1]; exact hz), fun q h1 h2 => by rw [e1, hk q (Nat.lt_of_lt_of_le h1 hS.1) (fun z => h2 (hA q (Nat.lt_of_lt_of_le h1 hS.1) z))]; exact hS.2.1 q h1 h2, fun q hq => by
      rcases List.mem_append.mp hq with h | h
      · exact hS.2.2 q h
      · exact hf _ (hL q h)⟩⟩
/-- caught by the row x of this method's table; the rows ahead don't take it -/
theorem vx_catch {own name : String} {E : String} {ce : Cell} {q : Addr} (hown : s.vm.findClass own = some m.cls) (pre : List ExceptionTableEntry) (x : ExceptionTableEntry) (suf : List ExceptionTableEntry) (hsplit : c.exceptionTable.toList = pre ++ x :: suf)
    (hpass : ∀ z ∈ pre, covers z pc = false ∨ (z.catchType ≠ 0 ∧ ∃ nm : String, (Cond.classLink own z.catchType nm).before args s = true ∧ va_Nc E nm s)) (hx : covers x pc = true) (h0 : x.catchType ≠ 0)
    (hlink : (Cond.classLink own x.catchType name).before args s = true) (hcast : (Cond.castable E name).before args s = true) (hcell : H[q]? = some ce) (hv : ce.vm = .none) (hcl : s.vm.findClass E = some ce.cls)
    (kk : W p l e R s m args below meth c H locs cells slots Q (F0 m x.handlerPc ls [.ref q])) : vx_W p l e R s m args below meth c H locs cells slots Q (F0 m pc ls rest) q := by
  intro T hT X
  have hpl : e.platform.magicAccessors = ({} : Platform).magicAccessors := by rw [X.admits.platform]
  obtain ⟨c3, c4, hc3, hc4, hasg⟩ := Cond.castable_spec hcast
  cases Option.some.inj (hc3.symm.trans hcl)
  obtain ⟨c5, hc5, hcl5⟩ := Cond.classLink_spec hown hlink e.platform hpl
  cases Option.some.inj (hc4.symm.trans hc5)
  obtain ⟨vm', X', st⟩ := X.thenCaughtThrough q (g := F0 m pc ls rest) rfl (Steps.refl _) (by rw [hT]; exact hcell) (by rw [hv]; rfl) (by obtain ⟨k9, h9, -⟩ := Vm.findClass_spec hcl; exact ⟨k9, h9⟩) pre x suf hsplit
    (fun z hz => by
      rcases hpass z hz with h | ⟨hz0, nm, hl1, hn1⟩
      · exact Or.inl h
      · obtain ⟨c6, hc6, hcl6⟩ := Cond.classLink_spec hown hl1 e.platform hpl
        obtain ⟨a8, b8, h1, h2, h3⟩ := hn1
        cases Option.some.inj (h1.symm.trans hcl)
        cases Option.some.inj (h2.symm.trans hc6)
        exact Or.inr ⟨hz0, _, hcl6, h3⟩) hx (Or.inr ⟨h0, c4, hcl5, hasg⟩)
  obtain ⟨t, a1, b1⟩ := kk (T.setVm vm') hT X'
  exact ⟨t, st.trans a1, b1⟩
end Rows
section Ends
variable {p : Program} {l : Launch} {e : Env} {R : Room} {s : State} {m : MethodId} {args : Array Value} {below : List Frame} {meth : Method} {c : Code} {H : Heap} {locs : List Loc} {cells slots : Nat} {Q : State → Prop}
variable {mc ms : Nat} {free : Addr → Prop} {A0 A1 : Nat → Prop} {H0 : Heap} {a : Array Value} {ls : Array Slot} {st0 rest : List Value}
variable {Qc : Array Value → State → Outcome → State → Prop} {XC : String → State → State → Prop}
/-- what a body that may throw owes at its end -/
def vx_MQ (below : List Frame) (Qc : Array Value → State → Outcome → State → Prop) (XC : String → State → State → Prop) (a : Array Value) (s : State) (mc ms : Nat) (free : Addr → Prop) : State → Prop := fun t =>
  ∃ o, t.status = .running ∧ Ended t below o ∧ vx_Q Qc XC mc ms free a s o t
theorem vx_ret {g : JFrame} {mc ms : Nat} (k : W p l e R s m args below meth c H locs cells slots (MQ below Qc args s mc ms free) g) : W p l e R s m args below meth c H locs cells slots (vx_MQ below Qc XC args s mc ms free) g := by
  intro T hT X
  obtain ⟨t, a1, o, b1, b2, b3, b4⟩ := k T hT X
  exact ⟨t, a1, o, b1, b2, Or.inl ⟨b3, b4⟩⟩
theorem vx_frame {U : State} {k n : Nat} (h : s.sameButNew ({ U with vm := s.vm } : State) locs k n) : s.heap.size ≤ U.heap.size ∧ ∀ q : Nat, q < s.heap.size → (∀ z ∈ locs, z.base ≠ q) → U.heap[q]? = s.heap[q]? := by
  obtain ⟨-, h2, -, -, -, h6⟩ := h
  refine ⟨h2, fun q hq hz => ?_⟩
  obtain ⟨c9, e1, e2, e3, e4⟩ := h6 q _ (Array.getElem?_eq_getElem hq)
  have hs : c9.slots = (s.heap[q]).slots := Array.ext_getElem? fun i => e4 i fun hm => hz _ hm rfl
  have h9 : c9 = s.heap[q] := by
    rw [hs] at e2
    exact e2
  have e5 : U.heap[q]? = some c9 := e1
  rw [e5, h9, Array.getElem?_eq_getElem hq]
/-- the words of a throw but the four that speak of the heap -/
def vx_no (w : Cond) : Bool := decide (w ≠ .isRef (.static Bundle.tN "UNASSIGNED_STACK" Bundle.steD)) && decide (w ≠ .isRef (.static Bundle.tN "SUPPRESSED_SENTINEL" Bundle.listD)) && decide (w ≠ .laysStatic Bundle.tN "UNASSIGNED_STACK" Bundle.steD) && decide (w ≠ .laysStatic Bundle.tN "SUPPRESSED_SENTINEL" Bundle.listD)
def vx_at0 (own : String) (ic : Nat) (X : String) (names : List String) : List Cond := (Bundle.ownAtoms0 own ic X names).filter vx_no
def vx_atS (own : String) (ic : Nat) (X : String) (names : List String) : List Cond := (Bundle.ownAtoms own ic X names).filter vx_no
/-- a word that the tables alone decide, or a good one -/
def vx_ot (w : Cond) : Bool := w.onTables || goodWord w
theorem vx_ot_at {args a' : Array Value} {s U : State} {w : Cond} (hW : s.WarmedH U.vm) (hvm : s.vm = U.vm) (hg : vx_ot w = true) (h : w.before args s = true) : w.before a' U = true := by
  simp only [vx_ot, Bool.or_eq_true] at hg
  rcases hg with hg | hg
  · exact va_tabs hg hvm h
  · exact word_at hW (good_of_word hg) h
theorem vx_own {args : Array Value} {s : State} {L : List Cond} (h1 : ∀ w ∈ L.filter vx_no, w.before args s = true)
    (hU : (Cond.isRef (.static Bundle.tN "UNASSIGNED_STACK" Bundle.steD)).before args s = true) (hN : (Cond.isRef (.static Bundle.tN "SUPPRESSED_SENTINEL" Bundle.listD)).before args s = true)
    (lU : (Cond.laysStatic Bundle.tN "UNASSIGNED_STACK" Bundle.steD).before args s = true) (lN : (Cond.laysStatic Bundle.tN "SUPPRESSED_SENTINEL" Bundle.listD).before args s = true) : ∀ w ∈ L, w.before args s = true := by
  intro w hw
  by_cases e1 : w = .isRef (.static Bundle.tN "UNASSIGNED_STACK" Bundle.steD)
  · rw [e1]; exact hU
  · by_cases e2 : w = .isRef (.static Bundle.tN "SUPPRESSED_SENTINEL" Bundle.listD)
    · rw [e2]; exact hN
    · by_cases e3 : w = .laysStatic Bundle.tN "UNASSIGNED_STACK" Bundle.steD
      · rw [e3]; exact lU
      · by_cases e4 : w = .laysStatic Bundle.tN "SUPPRESSED_SENTINEL" Bundle.listD
        · rw [e4]; exact lN
        · exact h1 w (List.mem_filter.mpr ⟨hw, by unfold vx_no; rw [decide_eq_true e1, decide_eq_true e2, decide_eq_true e3, decide_eq_true e4]; rfl⟩)
/-- where a static field lies, its class's statics cell in H -/
def vx_L (C n d : String) (A : Nat → Prop) (U : State) (H : Heap) : Prop := ∃ (c : ClassId) (k : Class) (i : Nat) (f : Field) (a : Nat) (cell : Cell), U.vm.findClass C = some c ∧ U.fieldFound? C n d = some (c, k, i, f) ∧ f.isStatic = true ∧ k.statics = some a ∧ H[a]? = some cell ∧ cell.vm.isStatics = true ∧ cell.cls = c ∧ f.slot < cell.slots.size ∧ k.staticTypes[f.slot]? = some f.type ∧ ¬ A a
theorem vx_L.moved {C n d : String} {A : Nat → Prop} {u U : State} {H : Heap} (hvm : u.vm.Alike U.vm) (h : vx_L C n d A u H) : vx_L C n d A U H := by
  obtain ⟨c, k, i, f, a, cell, h1, h2, h3, h4, h5, h6, h7, h8, h9, h10⟩ := h
  obtain ⟨k', hi', he⟩ := State.fieldFound?_setVm hvm h2
  exact ⟨c, k', i, f, a, cell, by rw [hvm.findClass]; exact h1, hi', h3, by rw [he]; exact h4, h5, h6, h7, h8, by rw [he]; exact h9, h10⟩
theorem vx_L.kept {C n d : String} {A : Nat → Prop} {U : State} {H H1 : Heap} (h : vx_L C n d A U H) (hq : ∀ a : Nat, a < H.size → ¬ A a → H1[a]? = H[a]?) : vx_L C n d A U H1 := by
  obtain ⟨c, k, i, f, a, cell, h1, h2, h3, h4, h5, h6, h7, h8, h9, h10⟩ := h
  exact ⟨c, k, i, f, a, cell, h1, h2, h3, h4, by rw [hq a (Array.getElem?_eq_some_iff.mp h5).1 h10]; exact h5, h6, h7, h8, h9, h10⟩
theorem vx_L.narrow {C n d : String} {A B : Nat → Prop} {U : State} {H : Heap} (h : vx_L C n d A U H) (hAB : ∀ q, B q → A q) : vx_L C n d B U H := by
  obtain ⟨c, k, i, f, a, cell, h1, h2, h3, h4, h5, h6, h7, h8, h9, h10⟩ := h
  exact ⟨c, k, i, f, a, cell, h1, h2, h3, h4, h5, h6, h7, h8, h9, fun z => h10 (hAB _ z)⟩
theorem vx_L.word {C n d : String} {A : Nat → Prop} {s : State} {args : Array Value} (h : vx_L C n d A s s.heap) : (Cond.laysStatic C n d).before args s = true := by
  obtain ⟨c, k, i, f, a, cell, h1, h2, h3, h4, h5, h6, h7, h8, h9, -⟩ := h
  show (Cond.laysStatic C n d).holds args s none s [] = true
  exact Cond.laysStatic_of h1 h2 h3 h4 h5 h6 h7 h8 h9
/-- .. and what it holds: null or some reference -/
def vx_Zq (C n d : String) (A : Nat → Prop) (U : State) (H : Heap) : Prop := va_Zq C n d A U H ∧ vx_L C n d A U H
theorem vx_Zq.moved {C n d : String} {A : Nat → Prop} {u U : State} {H : Heap} (hvm : u.vm.Alike U.vm) (h : vx_Zq C n d A u H) : vx_Zq C n d A U H := ⟨va_Zq.moved hvm h.1, vx_L.moved hvm h.2⟩
theorem vx_Zq.kept {C n d : String} {A : Nat → Prop} {U : State} {H H1 : Heap} (h : vx_Zq C n d A U H) (hq : ∀ a : Nat, a < H.size → ¬ A a → H1[a]? = H[a]?) : vx_Zq C n d A U H1 := ⟨va_Zq.kept h.1 hq, vx_L.kept h.2 hq⟩
theorem vx_Zq.narrow {C n d : String} {A B : Nat → Prop} {U : State} {H : Heap} (h : vx_Zq C n d A U H) (hAB : ∀ q, B q → A q) : vx_Zq C n d B U H := ⟨va_Zq.narrow h.1 hAB, vx_L.narrow h.2 hAB⟩
theorem vx_Zqof {args : Array Value} {s : State} {C n d : String} {A : Nat → Prop} (hl : (Cond.laysStatic C n d).before args s = true) (hini : (Cond.initialized C).before args s = true) (h : (Cond.isRef (.static C n d)).before args s = true) (hA : ∀ a : Nat, a < s.heap.size → ¬ A a) : vx_Zq C n d A s s.heap := by
  refine ⟨va_Zqof hl hini h hA, ?_⟩
  obtain ⟨c, k, i, f, a, cell, h1, h2, h3, h4, h5, h6, h7, h8, h9⟩ := Cond.laysStatic_spec hl
  exact ⟨c, k, i, f, a, cell, h1, h2, h3, h4, h5, h6, h7, h8, h9, hA a (Array.getElem?_eq_some_iff.mp h5).1⟩
theorem vx_isRef {C n d : String} {v : Value} {A : Nat → Prop} {s : State} {args : Array Value} (h : va_Z C n d v A s s.heap) (hv : v.isRef = true) : (Cond.isRef (.static C n d)).before args s = true := by
  obtain ⟨cf, kf, fi, f, a, cell, h1, h2, h3, h4, h5, h6, h7, -⟩ := h
  have he : (Term.static C n d).eval args s none [] s = some v := by
    simp [Term.eval, State.fieldNamed?, h1, h2, h4, h5, h6, h7]
  simp only [Cond.before, Cond.holds, Cond.value, he]
  cases v <;> simp_all [Value.isRef]
theorem vx_isRefq {C n d : String} {A : Nat → Prop} {s : State} {args : Array Value} (h : va_Zq C n d A s s.heap) : (Cond.isRef (.static C n d)).before args s = true := by
  rcases h with h | ⟨t, h⟩
  · exact vx_isRef h rfl
  · exact vx_isRef h rfl
/-- the same frame, seen from here: as if the method were called anew in this heap -/
theorem vx_rebase {T : State} (X : Stand p l e R s m args below meth c T locs cells slots) {R' : Room} (hf : R'.frames ≤ R.frames) (hl : R'.locals ≤ R.locals) (hc : cells + R'.cells ≤ R.cells) (hs : slots + R'.slots ≤ R.slots) :
    Stand p l e R' ((T.setVm s.vm).setFrames (.invoking m args :: below)) m args below meth c T [] 0 0 := by
  have htop : (T.setVm s.vm).topJava?.isSome := X.here.top
  have hF : ((T.setVm s.vm).setFrames (.invoking m args :: below)).frames = .invoking m args :: below := State.frames_setFrames _ (State.cur_lt_of_top htop)
  obtain ⟨g₀, hg0⟩ := Option.isSome_iff_exists.mp htop
  obtain ⟨r, hr⟩ := State.topJava?_eq_some.mp hg0
  have hl9 : e.platform.stackLimits (T.setVm s.vm).me = e.platform.stackLimits s.me := X.limits
  have hb9 : (T.setVm s.vm).me.stackBytes = s.me.stackBytes := X.bytes
  refine ⟨X.admits, X.cas, X.clock, hF, ?_, X.hears, X.method, X.code, X.here, X.tail, X.warmed, ?_, ?_, ?_⟩
  · have h := X.room
    have hU : ((T.setVm s.vm).setFrames (.invoking m args :: below)).localsInUse = s.localsInUse := by
      rw [State.localsInUse_invoking hF (meth := meth) (c := c) X.method X.code, State.localsInUse_invoking X.frames X.method X.code]
    simp only [State.hasRoom, Bool.and_eq_true, decide_eq_true_eq] at h ⊢
    obtain ⟨⟨⟨⟨h1, h2, h3, h4, h5, h6⟩, h7⟩, h8⟩, h9⟩ := h
    rw [X.frames, List.length_cons] at h2 h3
    have q1 := X.heapSize
    have q2 := X.used
    simp only [hF, hU, List.length_cons, State.stackLimits_setFrames, State.stackBytes_setFrames, hl9, hb9]
    refine ⟨⟨⟨⟨by omega, by omega, by omega, by omega, by omega, h6⟩, ?_⟩, ?_⟩, X.book⟩
    · show T.heap.size + R'.cells ≤ e.platform.maxCells
      omega
    · show T.slotsUsed + R'.slots ≤ e.platform.maxSlots
      omega
  · rw [State.stackLimits_setFrames]; rfl
  · rw [State.stackBytes_setFrames]; rfl
  · refine ⟨?_, Nat.le_refl _, Nat.le_refl _, ?_, ?_, fun a c9 h9 => ⟨c9, h9, rfl, rfl, fun _ _ => rfl⟩⟩
    · obtain ⟨t, ht, -⟩ := State.frames_cons hr
      show T.setVm s.vm = { ((T.setVm s.vm).setFrames (.invoking m args :: below)).setFrames (T.setVm s.vm).frames with heap := T.heap, slotsUsed := T.slotsUsed }
      rw [State.setFrames_setFrames, State.setFrames_self ht]
      rfl
    · show T.slotsUsed = T.slotsUsed + ((T.heap.toList.drop T.heap.size).map (·.slots.size)).sum
      rw [List.drop_eq_nil_of_le (Nat.le_of_eq Array.length_toList)]
      rfl
    · show ((T.heap.toList.drop T.heap.size).map (·.slots.size)).sum ≤ 0
      rw [List.drop_eq_nil_of_le (Nat.le_of_eq Array.length_toList)]
      exact Nat.le_refl _
/-- 'throw new E()': new; dup; invokespecial; athrow -/
theorem vx_throw0 {cc : ByteArray} {pc : Nat} (hexec : p.tables.exec = Jvm.exec) (hb : c.code = cc) (hl : l.stackTraces = false) {own cls : String} {names : List String} {ik ic mc ms : Nat} {A : Nat → Prop}
    (hown : s.vm.findClass own = some m.cls) (hcls : Bundle.fit cls = true) (hnames : ∀ n ∈ names, Bundle.fit n = true)
    (hk : (Cond.classLink own ik cls).before args s = true) (hini : (Cond.initialized cls).before args s = true) (hat : ∀ w ∈ vx_at0 own ic cls names, w.before args s = true)
    (hgood : ∀ w ∈ Cond.classLink own ik cls :: Cond.initialized cls :: vx_at0 own ic cls names, vx_ot w = true)
    (hU : vx_Zq Bundle.tN "UNASSIGNED_STACK" Bundle.steD A s s.heap) (hN : vx_Zq Bundle.tN "SUPPRESSED_SENTINEL" Bundle.listD A s s.heap) (hS : va_S A s.heap H locs) (hsize : ls.size = c.maxLocals)
    (d0 : decode cc pc = .ok (.new ik, 3)) (d3 : decode cc (pc + 3) = .ok (.dup, 1)) (d4 : decode cc (pc + 4) = .ok (.invokespecial ic, 3)) (d7 : decode cc (pc + 7) = .ok (.athrow, 1))
    (hout : ∀ x ∈ c.exceptionTable.toList, covers x (pc + 7) = false)
    (hRframes : names.length + 3 < R.frames) (hRlocals : (rest.map fun v => v.category).sum + (13 * (names.length + 1) + 42) ≤ R.locals) (hRcells : cells + 1 ≤ R.cells) (hRslots : slots + 6 ≤ R.slots) (hlocks : meth.locks = false)
    (hx : ∀ t : State, s.vm.Alike t.vm → H.size ≤ t.heap.size → (∀ q : Nat, q < H.size → t.heap[q]? = H[q]?) → XC cls s t)
    (hf : ∀ z ∈ locs, free z.base) (hc : cells + 1 ≤ mc) (hs : slots + 6 ≤ ms) :
    W p l e R s m args below meth c H locs cells slots (vx_MQ below Qc XC args s mc ms free) (F0 m pc ls rest) := by
  intro T hT X
  have htr : e.platform.stackTraces = false := (show e.platform.stackTraces = l.stackTraces by rw [X.admits.platform]).trans hl
  have Y := vx_rebase X (R' := { frames := R.frames, locals := R.locals, cells := 1, slots := 6 }) (Nat.le_refl _) (Nat.le_refl _) hRcells hRslots
  obtain ⟨s', hA⟩ : ∃ z, z = (T.setVm s.vm).setFrames (.invoking m args :: below) := ⟨_, rfl⟩
  rw [← hA] at Y
  have hvm : s'.vm = s.vm := by rw [hA]; rfl
  have hhp : s'.heap = H := by rw [hA]; exact hT
  have hW0 : s.WarmedH s'.vm := by rw [hvm]; exact State.WarmedH.refl s
  have hat' : ∀ w ∈ vx_at0 own ic cls names, w.before args s' = true := fun w hw => vx_ot_at hW0 hvm.symm (hgood w (List.mem_cons_of_mem _ (List.mem_cons_of_mem _ hw))) (hat w hw)
  have hk' : (Cond.classLink own ik cls).before args s' = true := vx_ot_at hW0 hvm.symm (hgood _ List.mem_cons_self) hk
  have hini' : (Cond.initialized cls).before args s' = true := vx_ot_at hW0 hvm.symm (hgood _ (List.mem_cons_of_mem _ List.mem_cons_self)) hini
  have hU' : vx_Zq Bundle.tN "UNASSIGNED_STACK" Bundle.steD A s' s'.heap := by rw [hhp]; exact vx_Zq.moved hW0.alike (hU.kept hS.2.1)
  have hN' : vx_Zq Bundle.tN "SUPPRESSED_SENTINEL" Bundle.listD A s' s'.heap := by rw [hhp]; exact vx_Zq.moved hW0.alike (hN.kept hS.2.1)
  have h : ∀ w ∈ Bundle.ownAtoms0 own ic cls names, w.before args s' = true := vx_own hat' (vx_isRefq hU'.1) (vx_isRefq hN'.1) hU'.2.word hN'.2.word
  have hown' : s'.vm.findClass own = some m.cls := by rw [hvm]; exact hown
  have hins : (Cond.instantiable cls 6).before args s' = true := h _ (by simp [Bundle.ownAtoms0])
  obtain ⟨vm₁, cX, kX, hfX, hkX, -, -, X₁, st1⟩ := Y.newCold hexec (own := own) (C := cls) (index := ik) (n := 6) hown' hk' hins hini'
    (g := F0 m pc ls rest) rfl (by rw [hb]; exact d0) (Nat.le_refl _) (Nat.le_refl _)
  generalize hT1 : (T.setVm vm₁).pushCell { cls := cX, slots := kX.instanceTypes.map defaultValue, vm := .none } = T1 at X₁ st1
  have hcat : (Value.ref T.heap.size).category = 1 := rfl
  have hcellA : T1.heap[T.heap.size]? = some (freshCell cX kX) := by rw [← hT1]; exact State.heap_pushCell_size _ _
  have d3' : decode c.code (pc + 3) = .ok (.dup, 1) := by rw [hb]; exact d3
  obtain ⟨U, hsteps, hrun, hend, hW, hsame, ce, hce, hO⟩ := X₁.ctorThrow0 hexec htr (own := own) (cls := cls) (names := names) (ic := ic) hown' hcls hnames h (fun x hx => nomatch hx) hfX hkX hcellA (by rw [hhp, hT]; exact Nat.le_refl _)
    (g := { method := m, pc := pc + 4, locals := ls, stack := .ref T.heap.size :: .ref T.heap.size :: rest, locked := none }) rfl hsize rfl rfl (rest := rest) rfl
    (by rw [hb]; exact d4) (by rw [hb]; exact d7) hout hRframes (by simp only [List.map_cons, List.sum_cons, hcat]; omega) hlocks
  obtain ⟨f1, f2⟩ := vx_frame hsame
  rw [hhp] at f1 f2
  have hWs : s.WarmedH U.vm := State.WarmedH.trans hW0 hW
  have hcl : s.vm.findClass cls = some ce.cls := by
    have h9 := hO.cls
    rw [hvm] at h9
    exact h9
  have hall : s.sameButNew ({ U with vm := s.vm } : State) locs mc ms := by
    subst hA
    obtain ⟨e1, e2⟩ := hsame
    rw [State.setFrames_setFrames] at e1
    have h2 : (T.setVm s.vm).sameButNew ({ U with vm := s.vm } : State) [] (0 + 1) (0 + 6) := ⟨e1, e2⟩
    have h3 := X.same.trans h2
    rw [List.append_nil] at h3
    exact h3.mono hc hs
  refine ⟨U, ?_, .threw T.heap.size, hrun, hend, Or.inr ⟨T.heap.size, rfl, cls, ce, locs, hx U hWs.alike f1 (fun q hq => f2 q hq (fun z hz => nomatch hz)), hce, hO.vm, hcl, hWs, hall, hf⟩⟩
  refine st1 _ ?_
  show Steps p.tables e below (T1.setTop { method := m, pc := pc + 3, locals := ls, stack := .ref T.heap.size :: rest, locked := none }) _
  jvm_step X₁.here [X₁.here.top, hexec, d3', Value.category]
  exact hsteps
/-- 'throw new E("text")': new; dup; ldc; invokespecial; athrow -/
theorem vx_throwS {cc : ByteArray} {pc : Nat} (hexec : p.tables.exec = Jvm.exec) (hb : c.code = cc) (hl : l.stackTraces = false) {own cls text : String} {names : List String} {ik is ic mc ms sa : Nat} {A : Nat → Prop}
    (hown : s.vm.findClass own = some m.cls) (hcls : Bundle.fit cls = true) (hnames : ∀ n ∈ names, Bundle.fit n = true)
    (hk : (Cond.classLink own ik cls).before args s = true) (hini : (Cond.initialized cls).before args s = true) (hstr : vk_R own is text sa s) (hat : ∀ w ∈ vx_atS own ic cls names, w.before args s = true)
    (hgood : ∀ w ∈ Cond.classLink own ik cls :: Cond.initialized cls :: vx_atS own ic cls names, vx_ot w = true)
    (hU : vx_Zq Bundle.tN "UNASSIGNED_STACK" Bundle.steD A s s.heap) (hN : vx_Zq Bundle.tN "SUPPRESSED_SENTINEL" Bundle.listD A s s.heap) (hS : va_S A s.heap H locs) (hsize : ls.size = c.maxLocals)
    (d0 : decode cc pc = .ok (.new ik, 3)) (d3 : decode cc (pc + 3) = .ok (.dup, 1)) (d4 : decode cc (pc + 4) = .ok (.ldc is, 2)) (d6 : decode cc (pc + 6) = .ok (.invokespecial ic, 3)) (d9 : decode cc (pc + 9) = .ok (.athrow, 1))
    (hout : ∀ x ∈ c.exceptionTable.toList, covers x (pc + 9) = false)
    (hRframes : names.length + 3 < R.frames) (hRlocals : (rest.map fun v => v.category).sum + (13 * (names.length + 1) + 43) ≤ R.locals) (hRcells : cells + 1 ≤ R.cells) (hRslots : slots + 6 ≤ R.slots) (hlocks : meth.locks = false)
    (hx : ∀ t : State, s.vm.Alike t.vm → H.size ≤ t.heap.size → (∀ q : Nat, q < H.size → t.heap[q]? = H[q]?) → XC cls s t)
    (hf : ∀ z ∈ locs, free z.base) (hc : cells + 1 ≤ mc) (hs : slots + 6 ≤ ms) :
    W p l e R s m args below meth c H locs cells slots (vx_MQ below Qc XC args s mc ms free) (F0 m pc ls rest) := by
  intro T hT X
  have htr : e.platform.stackTraces = false := (show e.platform.stackTraces = l.stackTraces by rw [X.admits.platform]).trans hl
  have Y := vx_rebase X (R' := { frames := R.frames, locals := R.locals, cells := 1, slots := 6 }) (Nat.le_refl _) (Nat.le_refl _) hRcells hRslots
  obtain ⟨s', hA⟩ : ∃ z, z = (T.setVm s.vm).setFrames (.invoking m args :: below) := ⟨_, rfl⟩
  rw [← hA] at Y
  have hvm : s'.vm = s.vm := by rw [hA]; rfl
  have hhp : s'.heap = H := by rw [hA]; exact hT
  have hW0 : s.WarmedH s'.vm := by rw [hvm]; exact State.WarmedH.refl s
  have hat' : ∀ w ∈ vx_atS own ic cls names, w.before args s' = true := fun w hw => vx_ot_at hW0 hvm.symm (hgood w (List.mem_cons_of_mem _ (List.mem_cons_of_mem _ hw))) (hat w hw)
  have hk' : (Cond.classLink own ik cls).before args s' = true := vx_ot_at hW0 hvm.symm (hgood _ List.mem_cons_self) hk
  have hini' : (Cond.initialized cls).before args s' = true := vx_ot_at hW0 hvm.symm (hgood _ (List.mem_cons_of_mem _ List.mem_cons_self)) hini
  have hU' : vx_Zq Bundle.tN "UNASSIGNED_STACK" Bundle.steD A s' s'.heap := by rw [hhp]; exact vx_Zq.moved hW0.alike (hU.kept hS.2.1)
  have hN' : vx_Zq Bundle.tN "SUPPRESSED_SENTINEL" Bundle.listD A s' s'.heap := by rw [hhp]; exact vx_Zq.moved hW0.alike (hN.kept hS.2.1)
  have h : ∀ w ∈ Bundle.ownAtoms own ic cls names, w.before args s' = true := vx_own hat' (vx_isRefq hU'.1) (vx_isRefq hN'.1) hU'.2.word hN'.2.word
  have hown' : s'.vm.findClass own = some m.cls := by rw [hvm]; exact hown
  have hins : (Cond.instantiable cls 6).before args s' = true := h _ (by simp [Bundle.ownAtoms])
  obtain ⟨vm₁, cX, kX, hfX, hkX, -, -, X₁, st1⟩ := Y.newCold hexec (own := own) (C := cls) (index := ik) (n := 6) hown' hk' hins hini'
    (g := F0 m pc ls rest) rfl (by rw [hb]; exact d0) (Nat.le_refl _) (Nat.le_refl _)
  generalize hT1 : (T.setVm vm₁).pushCell { cls := cX, slots := kX.instanceTypes.map defaultValue, vm := .none } = T1 at X₁ st1
  have hcat : (Value.ref T.heap.size).category = 1 := rfl
  have hcellA : T1.heap[T.heap.size]? = some (freshCell cX kX) := by rw [← hT1]; exact State.heap_pushCell_size _ _
  have d3' : decode c.code (pc + 3) = .ok (.dup, 1) := by rw [hb]; exact d3
  have d4' : decode c.code (pc + 4) = .ok (.ldc is, 2) := by rw [hb]; exact d4
  have hstr' : vk_R own is text sa s' := vk_R.warm hW0 hstr
  obtain ⟨U, hsteps, hrun, hend, hW, hsame, ce, hce, hO⟩ := X₁.ctorThrowS hexec htr (own := own) (cls := cls) (names := names) (ic := ic) hown' hcls hnames h (fun x hx => nomatch hx) hfX hkX hcellA (by rw [hhp, hT]; exact Nat.le_refl _) (msg := .ref sa) rfl
    (g := { method := m, pc := pc + 6, locals := ls, stack := .ref sa :: .ref T.heap.size :: .ref T.heap.size :: rest, locked := none }) rfl hsize rfl rfl (rest := rest) rfl
    (by rw [hb]; exact d6) (by rw [hb]; exact d9) hout hRframes (by simp only [List.map_cons, List.sum_cons, hcat]; omega) hlocks
  obtain ⟨f1, f2⟩ := vx_frame hsame
  rw [hhp] at f1 f2
  have hWs : s.WarmedH U.vm := State.WarmedH.trans hW0 hW
  have hcl : s.vm.findClass cls = some ce.cls := by
    have h9 := hO.cls
    rw [hvm] at h9
    exact h9
  have hall : s.sameButNew ({ U with vm := s.vm } : State) locs mc ms := by
    subst hA
    obtain ⟨e1, e2⟩ := hsame
    rw [State.setFrames_setFrames] at e1
    have h2 : (T.setVm s.vm).sameButNew ({ U with vm := s.vm } : State) [] (0 + 1) (0 + 6) := ⟨e1, e2⟩
    have h3 := X.same.trans h2
    rw [List.append_nil] at h3
    exact h3.mono hc hs
  refine ⟨U, ?_, .threw T.heap.size, hrun, hend, Or.inr ⟨T.heap.size, rfl, cls, ce, locs, hx U hWs.alike f1 (fun q hq => f2 q hq (fun z hz => nomatch hz)), hce, hO.vm, hcl, hWs, hall, hf⟩⟩
  refine st1 _ ?_
  show Steps p.tables e below (T1.setTop { method := m, pc := pc + 3, locals := ls, stack := .ref T.heap.size :: rest, locked := none }) _
  jvm_step X₁.here [X₁.here.top, hexec, d3', Value.category]
  exact X₁.ldcString hexec (own := own) (text := text) (index := is) (a := sa) hown' hstr'.1 hstr'.2
    (g := { method := m, pc := pc + 4, locals := ls, stack := .ref T.heap.size :: .ref T.heap.size :: rest, locked := none }) rfl d4' _ hsteps
/-- 'throw new E("text")', the text by a wide index -/
theorem vx_throwSW {cc : ByteArray} {pc : Nat} (hexec : p.tables.exec = Jvm.exec) (hb : c.code = cc) (hl : l.stackTraces = false) {own cls text : String} {names : List String} {ik is ic mc ms sa : Nat} {A : Nat → Prop}
    (hown : s.vm.findClass own = some m.cls) (hcls : Bundle.fit cls = true) (hnames : ∀ n ∈ names, Bundle.fit n = true)
    (hk : (Cond.classLink own ik cls).before args s = true) (hini : (Cond.initialized cls).before args s = true) (hstr : vk_R own is text sa s) (hat : ∀ w ∈ vx_atS own ic cls names, w.before args s = true)
    (hgood : ∀ w ∈ Cond.classLink own ik cls :: Cond.initialized cls :: vx_atS own ic cls names, vx_ot w = true)
    (hU : vx_Zq Bundle.tN "UNASSIGNED_STACK" Bundle.steD A s s.heap) (hN : vx_Zq Bundle.tN "SUPPRESSED_SENTINEL" Bundle.listD A s s.heap) (hS : va_S A s.heap H locs) (hsize : ls.size = c.maxLocals)
    (d0 : decode cc pc = .ok (.new ik, 3)) (d3 : decode cc (pc + 3) = .ok (.dup, 1)) (d4 : decode cc (pc + 4) = .ok (.ldc_w is, 3)) (d7 : decode cc (pc + 7) = .ok (.invokespecial ic, 3)) (d10 : decode cc (pc + 10) = .ok (.athrow, 1))
    (hout : ∀ x ∈ c.exceptionTable.toList, covers x (pc + 10) = false)
    (hRframes : names.length + 3 < R.frames) (hRlocals : (rest.map fun v => v.category).sum + (13 * (names.length + 1) + 43) ≤ R.locals) (hRcells : cells + 1 ≤ R.cells) (hRslots : slots + 6 ≤ R.slots) (hlocks : meth.locks = false)
    (hx : ∀ t : State, s.vm.Alike t.vm → H.size ≤ t.heap.size → (∀ q : Nat, q < H.size → t.heap[q]? = H[q]?) → XC cls s t)
    (hf : ∀ z ∈ locs, free z.base) (hc : cells + 1 ≤ mc) (hs : slots + 6 ≤ ms) :
    W p l e R s m args below meth c H locs cells slots (vx_MQ below Qc XC args s mc ms free) (F0 m pc ls rest) := by
  intro T hT X
  have htr : e.platform.stackTraces = false := (show e.platform.stackTraces = l.stackTraces by rw [X.admits.platform]).trans hl
  have Y := vx_rebase X (R' := { frames := R.frames, locals := R.locals, cells := 1, slots := 6 }) (Nat.le_refl _) (Nat.le_refl _) hRcells hRslots
  obtain ⟨s', hA⟩ : ∃ z, z = (T.setVm s.vm).setFrames (.invoking m args :: below) := ⟨_, rfl⟩
  rw [← hA] at Y
  have hvm : s'.vm = s.vm := by rw [hA]; rfl
  have hhp : s'.heap = H := by rw [hA]; exact hT
  have hW0 : s.WarmedH s'.vm := by rw [hvm]; exact State.WarmedH.refl s
  have hat' : ∀ w ∈ vx_atS own ic cls names, w.before args s' = true := fun w hw => vx_ot_at hW0 hvm.symm (hgood w (List.mem_cons_of_mem _ (List.mem_cons_of_mem _ hw))) (hat w hw)
  have hk' : (Cond.classLink own ik cls).before args s' = true := vx_ot_at hW0 hvm.symm (hgood _ List.mem_cons_self) hk
  have hini' : (Cond.initialized cls).before args s' = true := vx_ot_at hW0 hvm.symm (hgood _ (List.mem_cons_of_mem _ List.mem_cons_self)) hini
  have hU' : vx_Zq Bundle.tN "UNASSIGNED_STACK" Bundle.steD A s' s'.heap := by rw [hhp]; exact vx_Zq.moved hW0.alike (hU.kept hS.2.1)
  have hN' : vx_Zq Bundle.tN "SUPPRESSED_SENTINEL" Bundle.listD A s' s'.heap := by rw [hhp]; exact vx_Zq.moved hW0.alike (hN.kept hS.2.1)
  have h : ∀ w ∈ Bundle.ownAtoms own ic cls names, w.before args s' = true := vx_own hat' (vx_isRefq hU'.1) (vx_isRefq hN'.1) hU'.2.word hN'.2.word
  have hown' : s'.vm.findClass own = some m.cls := by rw [hvm]; exact hown
  have hins : (Cond.instantiable cls 6).before args s' = true := h _ (by simp [Bundle.ownAtoms])
  obtain ⟨vm₁, cX, kX, hfX, hkX, -, -, X₁, st1⟩ := Y.newCold hexec (own := own) (C := cls) (index := ik) (n := 6) hown' hk' hins hini'
    (g := F0 m pc ls rest) rfl (by rw [hb]; exact d0) (Nat.le_refl _) (Nat.le_refl _)
  generalize hT1 : (T.setVm vm₁).pushCell { cls := cX, slots := kX.instanceTypes.map defaultValue, vm := .none } = T1 at X₁ st1
  have hcat : (Value.ref T.heap.size).category = 1 := rfl
  have hcellA : T1.heap[T.heap.size]? = some (freshCell cX kX) := by rw [← hT1]; exact State.heap_pushCell_size _ _
  have d3' : decode c.code (pc + 3) = .ok (.dup, 1) := by rw [hb]; exact d3
  have d4' : decode c.code (pc + 4) = .ok (.ldc_w is, 3) := by rw [hb]; exact d4
  have hstr' : vk_R own is text sa s' := vk_R.warm hW0 hstr
  obtain ⟨U, hsteps, hrun, hend, hW, hsame, ce, hce, hO⟩ := X₁.ctorThrowS hexec htr (own := own) (cls := cls) (names := names) (ic := ic) hown' hcls hnames h (fun x hx => nomatch hx) hfX hkX hcellA (by rw [hhp, hT]; exact Nat.le_refl _) (msg := .ref sa) rfl
    (g := { method := m, pc := pc + 7, locals := ls, stack := .ref sa :: .ref T.heap.size :: .ref T.heap.size :: rest, locked := none }) rfl hsize rfl rfl (rest := rest) rfl
    (by rw [hb]; exact d7) (by rw [hb]; exact d10) hout hRframes (by simp only [List.map_cons, List.sum_cons, hcat]; omega) hlocks
  obtain ⟨f1, f2⟩ := vx_frame hsame
  rw [hhp] at f1 f2
  have hWs : s.WarmedH U.vm := State.WarmedH.trans hW0 hW
  have hcl : s.vm.findClass cls = some ce.cls := by
    have h9 := hO.cls
    rw [hvm] at h9
    exact h9
  have hall : s.sameButNew ({ U with vm := s.vm } : State) locs mc ms := by
    subst hA
    obtain ⟨e1, e2⟩ := hsame
    rw [State.setFrames_setFrames] at e1
    have h2 : (T.setVm s.vm).sameButNew ({ U with vm := s.vm } : State) [] (0 + 1) (0 + 6) := ⟨e1, e2⟩
    have h3 := X.same.trans h2
    rw [List.append_nil] at h3
    exact h3.mono hc hs
  refine ⟨U, ?_, .threw T.heap.size, hrun, hend, Or.inr ⟨T.heap.size, rfl, cls, ce, locs, hx U hWs.alike f1 (fun q hq => f2 q hq (fun z hz => nomatch hz)), hce, hO.vm, hcl, hWs, hall, hf⟩⟩
  refine st1 _ ?_
  show Steps p.tables e below (T1.setTop { method := m, pc := pc + 3, locals := ls, stack := .ref T.heap.size :: rest, locked := none }) _
  jvm_step X₁.here [X₁.here.top, hexec, d3', Value.category]
  exact X₁.ldcStringW hexec (own := own) (text := text) (index := is) (a := sa) hown' hstr'.1 hstr'.2
    (g := { method := m, pc := pc + 4, locals := ls, stack := .ref T.heap.size :: .ref T.heap.size :: rest, locked := none }) rfl d4' _ hsteps
end Ends
section Bodies
variable {l : Launch}
theorem vx_ofW {y : MethodName} {ws ws' : List Cond} {rm : Room} {Pc : Array Value → State → Prop} {Qc : Array Value → State → Outcome → State → Prop} {XC : String → State → State → Prop} {mc ms : Nat} {free : Addr → Prop} {cc : ByteArray} {maxL : Nat} {ret : Option FieldType}
    (hy : plainName y.cls = true) (hw : ws = Cond.code y cc maxL ret :: ws')
    (body : ∀ p e s m args below meth c s₁, BodyLoose p l y (headSpec ws rm) cc maxL ret e s m args below meth c s₁ → c.maxLocals = maxL → (∀ x ∈ c.exceptionTable.toList, False) → Pc args s →
      W p l e (headSpec ws rm).room s m args below meth c s.heap [] 0 0 (vx_MQ below Qc XC args s mc ms free) (entryFrame m args maxL)) : vx_Met l y ws rm Pc Qc XC mc ms free := by
  refine MetFree.of_bodyS (code := cc) (maxLocals := maxL) (ret := ret) hy ?_ ?_
  · intro args s m h hn
    obtain ⟨meth, c, h1, h2, h3, h4, h5, h6, -, -⟩ := Cond.code_spec hn (atoms_spec (ws := ws) h _ (by rw [hw]; exact List.mem_cons_self))
    exact ⟨meth, c, h1, h2, h3, h4, h5, h6⟩
  · intro p e s m args below meth c s₁ B hml hP _
    have hh0 : s₁.heap = s.heap := by rw [B.state]; rfl
    have ht : ∀ x ∈ c.exceptionTable.toList, False := by
      obtain ⟨meth9, c9, h1, h2, -, -, -, -, h7, -⟩ := Cond.code_spec B.named (atoms_spec (ws := ws) B.pre _ (by rw [hw]; exact List.mem_cons_self))
      cases Option.some.inj (h1.symm.trans B.method)
      cases Option.some.inj (h2.symm.trans (Stand.of_body B).code)
      intro x hx
      rw [Array.isEmpty_iff.mp h7] at hx
      cases hx
    obtain ⟨t, a1, o, b1, b2, b3⟩ := body p e s m args below meth c s₁ B hml ht hP s₁ hh0 (Stand.of_body B)
    exact ⟨t, o, a1, b1, b2, b3⟩
/-- the table of a body with handlers -/
theorem vx_table {p : Program} {x y : MethodName} {S : Spec} {cc bytes : ByteArray} {maxL maxL' : Nat} {ret ret' : Option FieldType} {e : Env} {s s₁ : State} {m : MethodId} {args : Array Value} {below : List Frame} {meth : Method} {c : Code} {hh : List (Nat × Nat × Nat × Nat)}
    (B : BodyLoose p l y S cc maxL ret e s m args below meth c s₁) (h : (Cond.codeWith y bytes maxL' ret' hh).before args s = true) : c.exceptionTable.toList = tableOf hh := by
  obtain ⟨m9, meth9, c9, hn9, h1, h2, -, -, h6, -⟩ := Cond.codeWith_spec h
  cases Option.some.inj (hn9.symm.trans B.named)
  cases Option.some.inj (h1.symm.trans B.method)
  cases Option.some.inj (h2.symm.trans (Stand.of_body B).code)
  rw [← h6, table_eq]
end Bodies
end VXA
/-! ===== END ===== -/
/-! ===== BEGIN a static call of a method with an exception table ===== -/
section VXS
variable {p : Program} {l : Launch} {e : Env} {R : Room} {s : State} {m : MethodId} {args : Array Value} {below : List Frame} {meth : Method} {c : Code} {T : State} {H : Heap} {locs : List Loc} {cells slots : Nat}
abbrev vx_CSW (R : Room) (s : State) (args : Array Value) (own : String) (index : Nat) (y : MethodName) (bytes : ByteArray) (maxL : Nat) (ret : Option FieldType) (hh : List (Nat × Nat × Nat × Nat)) (ws : List Cond) (rm : Room) (mc ms n : Nat) : Prop :=
  (rm.cells = mc ∧ rm.slots = ms ∧ rm.frames + 1 ≤ R.frames ∧ 8 + (maxL + 11) + rm.locals ≤ R.locals ∧ (∀ w ∈ ws, ∀ (a' : Array Value) (U : State), s.WarmedH U.vm → w.before a' U = true) ∧ Cond.codeWith y bytes maxL ret hh ∈ ws) ∧
  (Cond.codeWith y bytes maxL ret hh).before args s = true ∧ (Cond.initialized y.cls).before args s = true ∧ (y.cls ≠ "java/lang/invoke/MethodHandle" ∧ y.cls ≠ "java/lang/invoke/VarHandle") ∧
  (∀ sig, parseMethodDescriptor y.desc = some sig → n = sig.parameters.length) ∧ (Cond.methodLink own index y).before args s = true ∧ (Cond.static y).before args s = true
theorem vx_callSW (X : Stand p l e R s m args below meth c T locs cells slots) (hexec : p.tables.exec = Jvm.exec) {own : String} {index : Nat} {y : MethodName} {bytes : ByteArray} {maxL : Nat} {ret : Option FieldType} {hh : List (Nat × Nat × Nat × Nat)}
    (hown : s.vm.findClass own = some m.cls) (hlink : (Cond.methodLink own index y).before args s = true) (hstat : (Cond.static y).before args s = true) (hinit : (Cond.initialized y.cls).before args s = true)
    (hcode : (Cond.codeWith y bytes maxL ret hh).before args s = true) (hy : y.cls ≠ "java/lang/invoke/MethodHandle" ∧ y.cls ≠ "java/lang/invoke/VarHandle")
    {W9 : Nat} {Pre : Pt → Array Value → Prop} {Post : Pt → Array Value → Option Value → Pt → Prop} (hK : Back l R p e below s args y 3 W9 Pre Post)
    {g : JFrame} (hg : g.method = m) (hsize : g.locals.size = c.maxLocals) {argsL rest : List Value} (hlen : ∀ sig, parseMethodDescriptor y.desc = some sig → argsL.length = sig.parameters.length)
    (hstack : g.stack = argsL.reverse ++ rest) (hW : 2 * g.monitorRoom + (rest.map fun v => v.category).sum ≤ W9) (hdg : decode c.code g.pc = .ok (.invokestatic index, 3))
    (hpre : ∀ vm₁, s.WarmedH vm₁ → Pre ⟨T.setVm vm₁, locs, cells, slots⟩ argsL.toArray) :
    ∃ (v : Option Value) (vm₁ : Vm) (B : Pt), s.WarmedH vm₁ ∧ Stand p l e R s m args below meth c B.U B.locs B.cells B.slots ∧ Post ⟨T.setVm vm₁, locs, cells, slots⟩ argsL.toArray v B ∧
      ∀ target, Steps p.tables e below (B.U.setTop { g with pc := g.pc + 3, stack := v.toList ++ rest }) target → Steps p.tables e below (T.setTop g) target := by
  obtain ⟨mk, methM, cM, hnamed, hmethM, -, -, -, -, -, -, hsigM⟩ := Cond.codeWith_spec hcode
  have hstatic : methM.isStatic = true := Cond.static_spec hnamed hmethM hstat
  obtain ⟨kP, hkP, -⟩ := className_of_methodNamed hnamed
  have hinitP : kP.init = .initialized := Cond.initialized_spec (findClass_of_methodNamed hnamed) hkP hinit
  obtain ⟨vm₁, X₁, hstep₁⟩ := X.invokestatic hexec hown hlink hnamed hmethM hstatic hkP hinitP hy (g := g) hg (argsL := argsL) (rest := rest) (hlen _ hsigM) hstack hdg
  obtain ⟨v, B, X', hpost, hsteps⟩ := hK m meth c ⟨T.setVm vm₁, locs, cells, slots⟩ { g with stack := rest } (.invokestatic index) mk argsL.toArray X₁ hg hsize hdg hW (X₁.named hnamed) (hpre vm₁ X₁.warmed)
  exact ⟨v, vm₁, B, X₁.warmed, X', hpost, fun target h => hstep₁ _ fun acts => by rw [doInvoke_state]; exact hsteps.trans h⟩
/-- not caught here, past rows that name other classes: it goes on to the caller -/
theorem vx_outP {p : Program} {l : Launch} {e : Env} {R : Room} {s : State} {m : MethodId} {args : Array Value} {below : List Frame} {meth : Method} {c : Code} {H : Heap} {locs : List Loc} {cells slots : Nat} {free : Addr → Prop} {ls : Array Slot} {rest : List Value} {Qc : Array Value → State → Outcome → State → Prop} {XC : String → State → State → Prop}
    {pc : Nat} {own E : String} {ce : Cell} {q : Addr} {mc ms : Nat} (hown : s.vm.findClass own = some m.cls) (hlocks : meth.locks = false)
    (hpass : ∀ z ∈ c.exceptionTable.toList, covers z pc = false ∨ (z.catchType ≠ 0 ∧ ∃ nm : String, (Cond.classLink own z.catchType nm).before args s = true ∧ va_Nc E nm s)) (hcell : H[q]? = some ce) (hv : ce.vm = .none) (hcl : s.vm.findClass E = some ce.cls)
    (hx : ∀ t : State, t.heap = H → s.vm.Alike t.vm → XC E s t) (hf : ∀ z ∈ locs, free z.base) (hc : cells ≤ mc) (hs : slots ≤ ms) :
    vx_W p l e R s m args below meth c H locs cells slots (vx_MQ below Qc XC args s mc ms free) (F0 m pc ls rest) q := by
  intro T hT X
  have hpl : e.platform.magicAccessors = ({} : Platform).magicAccessors := by rw [X.admits.platform]
  obtain ⟨vm', hW', X', st⟩ := X.outThrough hlocks q (g := F0 m pc ls rest) rfl rfl rfl (cell := ce) (by rw [hT]; exact hcell) (by rw [hv]; rfl)
    (by obtain ⟨k9, h9, -⟩ := Vm.findClass_spec hcl; exact ⟨k9, h9⟩) (fun z hz => by
      rcases hpass z hz with h | ⟨hz0, nm, hl1, hn1⟩
      · exact Or.inl h
      · obtain ⟨c6, hc6, hcl6⟩ := Cond.classLink_spec hown hl1 e.platform hpl
        obtain ⟨a8, b8, h1, h2, h3⟩ := hn1
        cases Option.some.inj (h1.symm.trans hcl)
        cases Option.some.inj (h2.symm.trans hc6)
        exact Or.inr ⟨hz0, _, hcl6, h3⟩)
  obtain ⟨g₀, hfr⟩ := X'.frames_eq
  have hcell9 : ((T.setVm vm').setFrames (.throwing q :: below)).heap[q]? = some ce := by
    show T.heap[q]? = some ce
    rw [hT]; exact hcell
  have hend : Ended ((T.setVm vm').setFrames (.throwing q :: below)) below (.threw q) := State.frames_setFrames _ (State.cur_lt_of_frames hfr)
  refine ⟨(T.setVm vm').setFrames (.throwing q :: below), ?_, .threw q, X'.here.running, hend, Or.inr ⟨q, rfl, E, ce, locs, hx _ hT (X'.ends _).1.alike, hcell9, hv, hcl, (X'.ends _).1, (X'.ends _).2.mono hc hs, hf⟩⟩
  rw [X.pushThrowing_eq]
  exact st
/-- a thing of a world lies in the heap -/
theorem vx_lt {D : va_G} {cl : List vw_C} {ws : va_W} {H1 : Heap} (h : va_P D cl ws H1) {k : Nat} {q : Nat × va_E} (hk : ws[k]? = some q) : q.1 < H1.size := (h k q hk).lt
end VXS
/-! ===== END ===== -/
/-! ===== BEGIN methods with a table of their own: called by a name, returning or throwing ===== -/
section VXH
/-! vx_backW, vx_callVX, vx_callSX, vx_callVW, vx_runVW, vx_runVX, vx_runSX, vx_ofWH follow the same proofs as their sisters above (Free/Laws.lean, Shelf42/LK1.lean); vx_outP calls Shelf42/NT130.lean (outThrough). -/
section
variable {l : Launch} {R : Room} {p : Program} {e : Env} {below : List Frame} {s : State} {sargs : Array Value} {y : MethodName} {len W9 : Nat}
theorem vx_backW {ws : List Cond} {rm : Room} {Pc : Array Value → State → Prop} {Qc : Array Value → State → Outcome → State → Prop} {XC : String → State → State → Prop} {mc ms : Nat} {free : Addr → Prop} {bytes : ByteArray} {maxL : Nat} {ret : Option FieldType} {hh : List (Nat × Nat × Nat × Nat)}
    (hM : vx_Met l y ws rm Pc Qc XC mc ms free) (hblind : FrameBlind Pc) (hrc : rm.cells = mc) (hrs : rm.slots = ms)
    (hframes : rm.frames + 1 ≤ R.frames) (hlocals : W9 + (maxL + 11) + rm.locals ≤ R.locals)
    (hws : ∀ w ∈ ws, ∀ a' U, s.WarmedH U.vm → w.before a' U = true) (hcode : Cond.codeWith y bytes maxL ret hh ∈ ws) (hinit : ∀ a' U, s.WarmedH U.vm → (Cond.initialized y.cls).before a' U = true) :
    vx_Back l R p e below s sargs y len W9 (PreOf R mc ms Pc) (PostOf Qc mc ms free) (vx_Post XC mc ms free) := by
  intro m meth c A g ig mk a X hg hsize hdg hW hn hp
  have h1 : (headSpec ws rm).pre.before a A.U = true := atoms_intro fun w hw => hws w hw _ _ X.warmed
  have h2 : (Cond.codeWith y bytes maxL ret hh).before a A.U = true := hws _ hcode _ _ X.warmed
  have h3 : (Cond.initialized y.cls).before a A.U = true := hinit _ _ X.warmed
  have h4 : A.cells + (headSpec ws rm).room.cells ≤ R.cells := by rw [show (headSpec ws rm).room.cells = mc from hrc]; exact hp.1
  have h5 : A.slots + (headSpec ws rm).room.slots ≤ R.slots := by rw [show (headSpec ws rm).room.slots = ms from hrs]; exact hp.2.1
  have hPc : Pc a (A.U.calling g mk a) := hblind _ _ _ _ hp.2.2
  obtain ⟨U, Ls, c0, s0⟩ := A
  dsimp only [Pt.U, Pt.locs, Pt.cells, Pt.slots] at h1 h2 h3 h4 h5 X hn hPc ⊢
  obtain ⟨m9, methY, cY, hn9, hmY, hcY, -, hlY, -⟩ := Cond.codeWith_spec h2
  cases Option.some.inj (hn9.symm.trans hn)
  obtain ⟨kY, hkY, -⟩ := className_of_methodNamed hn
  have hinitY : kY.init = .initialized := Cond.initialized_spec (findClass_of_methodNamed hn) hkY h3
  have h : At U g.method c below := by rw [hg]; exact X.here
  have hlocals9 : W9 + (maxL + 11) + (headSpec ws rm).room.locals ≤ R.locals := hlocals
  have happ : (headSpec ws rm).appliesLoose y e.platform (U.calling g mk a) = true :=
    Spec.appliesLoose_calling (g := g) h hdg hn hkY hinitY
      (X.room_calling (g := g) (R' := (headSpec ws rm).room) hsize hmY hcY hframes (by rw [hlY]; omega) h4 h5) h1
  obtain ⟨mid, hmid⟩ := h.above
  have hfr : (U.setTop g).frames = (.java g :: mid) ++ below := by rw [State.frames_setTop' g h.top, hmid]; rfl
  obtain ⟨o, s₂, hsteps, -, hend, hq⟩ := Steps.callFree hM p X.admits X.cas X.clock (acts := []) hfr happ hPc trivial
  have hq' : vx_Q Qc XC mc ms free a (U.calling g mk a) o s₂ := hq
  rw [State.frames_setTop' g h.top] at hend
  obtain ⟨g₀, hg0⟩ := Option.isSome_iff_exists.mp h.top
  obtain ⟨r, hr⟩ := State.topJava?_eq_some.mp hg0
  have hr' : (({ U with heap := s₂.heap, slotsUsed := s₂.slotsUsed } : State).setVm s₂.vm).frames = .java g₀ :: r := hr
  rcases hq' with ⟨hqc, L, hfe, hL⟩ | ⟨q, rfl, E, ce, L, hx, hce, hcv, hcl, hW₂, hsm, hL⟩
  · obtain ⟨⟨v, rfl⟩, hW₂, e2, q2, q3, q4, q5, q6⟩ := id hfe
    have e3 : s₂ = ({ (U.calling g mk a).setFrames s₂.frames with heap := s₂.heap, slotsUsed := s₂.slotsUsed } : State).setVm s₂.vm := by
      have : s₂ = ({ s₂ with vm := (U.calling g mk a).vm } : State).setVm s₂.vm := rfl
      rw [e2] at this
      exact this
    obtain ⟨c₂, i₂, len₂, hc₂, hd₂, hf₂⟩ := hend
    have hW' : U.WarmedH s₂.vm := hW₂
    have hcc : c₂ = c := by
      have h1 : s₂.code? g.method = U.code? g.method := by
        rw [State.code?_eq, State.code?_eq, hW'.alike.method?]
      exact Option.some.inj (hc₂.symm.trans (h1.trans h.code))
    subst hcc
    have hlen : len₂ = len := by rw [hdg] at hd₂; cases hd₂; rfl
    subst hlen
    have hs₂ : s₂ = (({ U with heap := s₂.heap, slotsUsed := s₂.slotsUsed } : State).setVm s₂.vm).setTop { g with pc := g.pc + len₂, stack := v.toList ++ g.stack } := by
      refine e3.trans ?_
      rw [hf₂, State.calling_eq h.top, State.setFrames_setFrames, State.setTop_of_frames _ hr', hr]
      rfl
    have hsame : U.sameButNew ({ U with heap := s₂.heap, slotsUsed := s₂.slotsUsed } : State) L mc ms := by
      refine ⟨?_, q2, q3, q4, q5, q6⟩
      obtain ⟨t, ht, -⟩ := State.frames_cons hr
      show ({ U with heap := s₂.heap, slotsUsed := s₂.slotsUsed } : State) = { U.setFrames U.frames with heap := s₂.heap, slotsUsed := s₂.slotsUsed }
      rw [State.setFrames_self ht]
    subst hg
    refine Or.inl ⟨v, ⟨(({ U with heap := s₂.heap, slotsUsed := s₂.slotsUsed } : State).setVm s₂.vm), Ls ++ L, c0 + mc, s0 + ms⟩,
      ⟨X.admits, X.cas, X.clock, X.frames, X.room, X.hears, X.method, X.code, (X.here.setHeapUsed s₂.heap s₂.slotsUsed).setVm hW'.alike, X.tail, State.WarmedH.trans X.warmed hW', X.limits, X.bytes, X.same.trans (hsame.setVm s.vm)⟩,
      ⟨g, mk, s₂, L, rfl, rfl, hqc, rfl, hL, rfl, rfl⟩, ?_⟩
    show Steps p.tables e below _ ((({ U with heap := s₂.heap, slotsUsed := s₂.slotsUsed } : State).setVm s₂.vm).setTop { g with pc := g.pc + len₂, stack := v.toList ++ g.stack })
    rw [← hs₂]
    exact hsteps
  · obtain ⟨e2, q2, q3, q4, q5, q6⟩ := id hsm
    have e3 : s₂ = ({ (U.calling g mk a).setFrames s₂.frames with heap := s₂.heap, slotsUsed := s₂.slotsUsed } : State).setVm s₂.vm := by
      have : s₂ = ({ s₂ with vm := (U.calling g mk a).vm } : State).setVm s₂.vm := rfl
      rw [e2] at this
      exact this
    have hf₂ : s₂.frames = .throwing q :: .java g :: U.frames.tail := hend
    have hW' : U.WarmedH s₂.vm := hW₂
    have hs₂ : s₂ = ((({ U with heap := s₂.heap, slotsUsed := s₂.slotsUsed } : State).setVm s₂.vm).setTop g).pushFrame (.throwing q) := by
      refine e3.trans ?_
      rw [hf₂, State.calling_eq h.top, State.setFrames_setFrames, State.pushFrame, State.frames_setTop _ hr', State.setTop_of_frames _ hr', State.setFrames_setFrames, hr]
      rfl
    have hsame : U.sameButNew ({ U with heap := s₂.heap, slotsUsed := s₂.slotsUsed } : State) L mc ms := by
      refine ⟨?_, q2, q3, q4, q5, q6⟩
      obtain ⟨t, ht, -⟩ := State.frames_cons hr
      show ({ U with heap := s₂.heap, slotsUsed := s₂.slotsUsed } : State) = { U.setFrames U.frames with heap := s₂.heap, slotsUsed := s₂.slotsUsed }
      rw [State.setFrames_self ht]
    subst hg
    refine Or.inr ⟨q, ⟨(({ U with heap := s₂.heap, slotsUsed := s₂.slotsUsed } : State).setVm s₂.vm), Ls ++ L, c0 + mc, s0 + ms⟩,
      ⟨X.admits, X.cas, X.clock, X.frames, X.room, X.hears, X.method, X.code, (X.here.setHeapUsed s₂.heap s₂.slotsUsed).setVm hW'.alike, X.tail, State.WarmedH.trans X.warmed hW', X.limits, X.bytes, X.same.trans (hsame.setVm s.vm)⟩,
      ⟨g, mk, s₂, L, E, ce, rfl, rfl, hx, hce, hcv, hcl, rfl, hL, rfl, rfl⟩, ?_⟩
    show Steps p.tables e below _ (((({ U with heap := s₂.heap, slotsUsed := s₂.slotsUsed } : State).setVm s₂.vm).setTop g).pushFrame (.throwing q))
    rw [← hs₂]
    exact hsteps
end
variable {p : Program} {l : Launch} {e : Env} {R : Room} {s : State} {m : MethodId} {args : Array Value} {below : List Frame} {meth : Method} {c : Code} {T : State} {H : Heap} {locs : List Loc} {cells slots : Nat}
theorem vx_callVX (X : Stand p l e R s m args below meth c T locs cells slots) (hexec : p.tables.exec = Jvm.exec) {own C : String} {index : Nat} {y : MethodName} {bytes : ByteArray} {maxL : Nat} {ret : Option FieldType} {hh : List (Nat × Nat × Nat × Nat)}
    (hown : s.vm.findClass own = some m.cls) (hlink : (Cond.methodLink own index y).before args s = true) (hinst : (Cond.instanceMethod y).before args s = true) (hsel : (Cond.selects C y y).before args s = true)
    (hcode : (Cond.codeWith y bytes maxL ret hh).before args s = true) (hy : y.cls ≠ "java/lang/invoke/MethodHandle" ∧ y.cls ≠ "java/lang/invoke/VarHandle")
    {W9 : Nat} {Pre : Pt → Array Value → Prop} {Post : Pt → Array Value → Option Value → Pt → Prop} {PostX : Pt → Array Value → Addr → Pt → Prop} (hK : vx_Back l R p e below s args y 3 W9 Pre Post PostX)
    {b : Addr} {cellB : Cell} (hcell : T.heap[b]? = some cellB) (hobj : cellB.vm.isStatics = false) (hcls : s.vm.findClass C = some cellB.cls)
    {g : JFrame} (hg : g.method = m) (hsize : g.locals.size = c.maxLocals) {argsL rest : List Value} (hlen : ∀ sig, parseMethodDescriptor y.desc = some sig → argsL.length = sig.parameters.length)
    (hstack : g.stack = argsL.reverse ++ .ref b :: rest) (hW : 2 * g.monitorRoom + (rest.map fun v => v.category).sum ≤ W9) (hdg : decode c.code g.pc = .ok (.invokevirtual index, 3))
    (hpre : ∀ vm₁, s.WarmedH vm₁ → Pre ⟨T.setVm vm₁, locs, cells, slots⟩ (Value.ref b :: argsL).toArray) :
    (∃ (v : Option Value) (vm₁ : Vm) (B : Pt), s.WarmedH vm₁ ∧ Stand p l e R s m args below meth c B.U B.locs B.cells B.slots ∧ Post ⟨T.setVm vm₁, locs, cells, slots⟩ (Value.ref b :: argsL).toArray v B ∧
      ∀ target, Steps p.tables e below (B.U.setTop { g with pc := g.pc + 3, stack := v.toList ++ rest }) target → Steps p.tables e below (T.setTop g) target) ∨
    (∃ (q : Addr) (vm₁ : Vm) (B : Pt), s.WarmedH vm₁ ∧ Stand p l e R s m args below meth c B.U B.locs B.cells B.slots ∧ PostX ⟨T.setVm vm₁, locs, cells, slots⟩ (Value.ref b :: argsL).toArray q B ∧
      Steps p.tables e below (T.setTop g) ((B.U.setTop { g with stack := rest }).pushFrame (.throwing q))) := by
  obtain ⟨mk, methM, hnamed, hmethM, hstM, habM⟩ := Cond.instanceMethod_spec hinst
  obtain ⟨m8, methM', cM, hn8, hmethM', -, -, -, -, -, -, hsigM⟩ := Cond.codeWith_spec hcode
  cases Option.some.inj (hn8.symm.trans hnamed)
  cases hmethM.symm.trans hmethM'
  obtain ⟨c2, r2, m2, q1, q2, q3, q4, kP, hkP, hkPi⟩ := Cond.selects_spec hsel
  cases hcls.symm.trans q1
  cases (State.methodFound?_of_named hnamed hy).symm.trans q2
  cases hnamed.symm.trans q3
  have hselP : selectMethod e.platform s.vm cellB.cls mk = .method mk := by rw [Launch.admits_selectMethod X.admits]; exact q4
  obtain ⟨vm₁, X₁, hstep₁⟩ := X.invokevirtual hexec hown hlink hnamed hmethM hstM hkP hkPi hy (a := b) (cell := cellB) hcell
    (fun z h => by rw [h] at hobj; cases hobj) hselP hmethM habM hkP hkPi (g := g) hg (argsL := argsL) (rest := rest) (hlen _ hsigM) hstack hdg
  rcases hK m meth c ⟨T.setVm vm₁, locs, cells, slots⟩ { g with stack := rest } (.invokevirtual index) mk (Value.ref b :: argsL).toArray X₁ hg hsize hdg hW (X₁.named hnamed) (hpre vm₁ X₁.warmed) with ⟨v, B, X', hpost, hsteps⟩ | ⟨q, B, X', hpost, hsteps⟩
  · exact Or.inl ⟨v, vm₁, B, X₁.warmed, X', hpost, fun target h => hstep₁ _ fun acts => by rw [doInvoke_state]; exact hsteps.trans h⟩
  · exact Or.inr ⟨q, vm₁, B, X₁.warmed, X', hpost, hstep₁ _ fun acts => by rw [doInvoke_state]; exact hsteps⟩
theorem vx_callSX (X : Stand p l e R s m args below meth c T locs cells slots) (hexec : p.tables.exec = Jvm.exec) {own : String} {index : Nat} {y : MethodName} {bytes : ByteArray} {maxL : Nat} {ret : Option FieldType} {hh : List (Nat × Nat × Nat × Nat)}
    (hown : s.vm.findClass own = some m.cls) (hlink : (Cond.methodLink own index y).before args s = true) (hstat : (Cond.static y).before args s = true) (hinit : (Cond.initialized y.cls).before args s = true)
    (hcode : (Cond.codeWith y bytes maxL ret hh).before args s = true) (hy : y.cls ≠ "java/lang/invoke/MethodHandle" ∧ y.cls ≠ "java/lang/invoke/VarHandle")
    {W9 : Nat} {Pre : Pt → Array Value → Prop} {Post : Pt → Array Value → Option Value → Pt → Prop} {PostX : Pt → Array Value → Addr → Pt → Prop} (hK : vx_Back l R p e below s args y 3 W9 Pre Post PostX)
    {g : JFrame} (hg : g.method = m) (hsize : g.locals.size = c.maxLocals) {argsL rest : List Value} (hlen : ∀ sig, parseMethodDescriptor y.desc = some sig → argsL.length = sig.parameters.length)
    (hstack : g.stack = argsL.reverse ++ rest) (hW : 2 * g.monitorRoom + (rest.map fun v => v.category).sum ≤ W9) (hdg : decode c.code g.pc = .ok (.invokestatic index, 3))
    (hpre : ∀ vm₁, s.WarmedH vm₁ → Pre ⟨T.setVm vm₁, locs, cells, slots⟩ argsL.toArray) :
    (∃ (v : Option Value) (vm₁ : Vm) (B : Pt), s.WarmedH vm₁ ∧ Stand p l e R s m args below meth c B.U B.locs B.cells B.slots ∧ Post ⟨T.setVm vm₁, locs, cells, slots⟩ argsL.toArray v B ∧
      ∀ target, Steps p.tables e below (B.U.setTop { g with pc := g.pc + 3, stack := v.toList ++ rest }) target → Steps p.tables e below (T.setTop g) target) ∨
    (∃ (q : Addr) (vm₁ : Vm) (B : Pt), s.WarmedH vm₁ ∧ Stand p l e R s m args below meth c B.U B.locs B.cells B.slots ∧ PostX ⟨T.setVm vm₁, locs, cells, slots⟩ argsL.toArray q B ∧
      Steps p.tables e below (T.setTop g) ((B.U.setTop { g with stack := rest }).pushFrame (.throwing q))) := by
  obtain ⟨mk, methM, cM, hnamed, hmethM, -, -, -, -, -, -, hsigM⟩ := Cond.codeWith_spec hcode
  have hstatic : methM.isStatic = true := Cond.static_spec hnamed hmethM hstat
  obtain ⟨kP, hkP, -⟩ := className_of_methodNamed hnamed
  have hinitP : kP.init = .initialized := Cond.initialized_spec (findClass_of_methodNamed hnamed) hkP hinit
  obtain ⟨vm₁, X₁, hstep₁⟩ := X.invokestatic hexec hown hlink hnamed hmethM hstatic hkP hinitP hy (g := g) hg (argsL := argsL) (rest := rest) (hlen _ hsigM) hstack hdg
  rcases hK m meth c ⟨T.setVm vm₁, locs, cells, slots⟩ { g with stack := rest } (.invokestatic index) mk argsL.toArray X₁ hg hsize hdg hW (X₁.named hnamed) (hpre vm₁ X₁.warmed) with ⟨v, B, X', hpost, hsteps⟩ | ⟨q, B, X', hpost, hsteps⟩
  · exact Or.inl ⟨v, vm₁, B, X₁.warmed, X', hpost, fun target h => hstep₁ _ fun acts => by rw [doInvoke_state]; exact hsteps.trans h⟩
  · exact Or.inr ⟨q, vm₁, B, X₁.warmed, X', hpost, hstep₁ _ fun acts => by rw [doInvoke_state]; exact hsteps⟩
theorem vx_callVW (X : Stand p l e R s m args below meth c T locs cells slots) (hexec : p.tables.exec = Jvm.exec) {own C : String} {index : Nat} {y : MethodName} {bytes : ByteArray} {maxL : Nat} {ret : Option FieldType} {hh : List (Nat × Nat × Nat × Nat)}
    (hown : s.vm.findClass own = some m.cls) (hlink : (Cond.methodLink own index y).before args s = true) (hinst : (Cond.instanceMethod y).before args s = true) (hsel : (Cond.selects C y y).before args s = true)
    (hcode : (Cond.codeWith y bytes maxL ret hh).before args s = true) (hy : y.cls ≠ "java/lang/invoke/MethodHandle" ∧ y.cls ≠ "java/lang/invoke/VarHandle")
    {W9 : Nat} {Pre : Pt → Array Value → Prop} {Post : Pt → Array Value → Option Value → Pt → Prop} (hK : Back l R p e below s args y 3 W9 Pre Post)
    {b : Addr} {cellB : Cell} (hcell : T.heap[b]? = some cellB) (hobj : cellB.vm.isStatics = false) (hcls : s.vm.findClass C = some cellB.cls)
    {g : JFrame} (hg : g.method = m) (hsize : g.locals.size = c.maxLocals) {argsL rest : List Value} (hlen : ∀ sig, parseMethodDescriptor y.desc = some sig → argsL.length = sig.parameters.length)
    (hstack : g.stack = argsL.reverse ++ .ref b :: rest) (hW : 2 * g.monitorRoom + (rest.map fun v => v.category).sum ≤ W9) (hdg : decode c.code g.pc = .ok (.invokevirtual index, 3))
    (hpre : ∀ vm₁, s.WarmedH vm₁ → Pre ⟨T.setVm vm₁, locs, cells, slots⟩ (Value.ref b :: argsL).toArray) :
    ∃ (v : Option Value) (vm₁ : Vm) (B : Pt), s.WarmedH vm₁ ∧ Stand p l e R s m args below meth c B.U B.locs B.cells B.slots ∧ Post ⟨T.setVm vm₁, locs, cells, slots⟩ (Value.ref b :: argsL).toArray v B ∧
      ∀ target, Steps p.tables e below (B.U.setTop { g with pc := g.pc + 3, stack := v.toList ++ rest }) target → Steps p.tables e below (T.setTop g) target := by
  obtain ⟨mk, methM, hnamed, hmethM, hstM, habM⟩ := Cond.instanceMethod_spec hinst
  obtain ⟨m8, methM', cM, hn8, hmethM', -, -, -, -, -, -, hsigM⟩ := Cond.codeWith_spec hcode
  cases Option.some.inj (hn8.symm.trans hnamed)
  cases hmethM.symm.trans hmethM'
  obtain ⟨c2, r2, m2, q1, q2, q3, q4, kP, hkP, hkPi⟩ := Cond.selects_spec hsel
  cases hcls.symm.trans q1
  cases (State.methodFound?_of_named hnamed hy).symm.trans q2
  cases hnamed.symm.trans q3
  have hselP : selectMethod e.platform s.vm cellB.cls mk = .method mk := by rw [Launch.admits_selectMethod X.admits]; exact q4
  obtain ⟨vm₁, X₁, hstep₁⟩ := X.invokevirtual hexec hown hlink hnamed hmethM hstM hkP hkPi hy (a := b) (cell := cellB) hcell
    (fun z h => by rw [h] at hobj; cases hobj) hselP hmethM habM hkP hkPi (g := g) hg (argsL := argsL) (rest := rest) (hlen _ hsigM) hstack hdg
  obtain ⟨v, B, X', hpost, hsteps⟩ := hK m meth c ⟨T.setVm vm₁, locs, cells, slots⟩ { g with stack := rest } (.invokevirtual index) mk (Value.ref b :: argsL).toArray X₁ hg hsize hdg hW (X₁.named hnamed) (hpre vm₁ X₁.warmed)
  exact ⟨v, vm₁, B, X₁.warmed, X', hpost, fun target h => hstep₁ _ fun acts => by rw [doInvoke_state]; exact hsteps.trans h⟩
abbrev vx_CVW (R : Room) (s : State) (args : Array Value) (own C : String) (index : Nat) (y : MethodName) (bytes : ByteArray) (maxL : Nat) (ret : Option FieldType) (hh : List (Nat × Nat × Nat × Nat)) (ws : List Cond) (rm : Room) (mc ms n : Nat) : Prop :=
  (rm.cells = mc ∧ rm.slots = ms ∧ rm.frames + 1 ≤ R.frames ∧ 8 + (maxL + 11) + rm.locals ≤ R.locals ∧ (∀ w ∈ ws, ∀ (a' : Array Value) (U : State), s.WarmedH U.vm → w.before a' U = true) ∧ Cond.codeWith y bytes maxL ret hh ∈ ws) ∧
  (Cond.codeWith y bytes maxL ret hh).before args s = true ∧ (Cond.initialized y.cls).before args s = true ∧ (y.cls ≠ "java/lang/invoke/MethodHandle" ∧ y.cls ≠ "java/lang/invoke/VarHandle") ∧
  (∀ sig, parseMethodDescriptor y.desc = some sig → n = sig.parameters.length) ∧ (Cond.methodLink own index y).before args s = true ∧ (Cond.instanceMethod y).before args s = true ∧ (Cond.selects C y y).before args s = true
theorem vx_runVW {y : MethodName} {bytes cc : ByteArray} {maxL nL mc ms n index : Nat} {ret : Option FieldType} {hh : List (Nat × Nat × Nat × Nat)} {ws : List Cond} {rm : Room} {Pc : Array Value → State → Prop} {Qc : Array Value → State → Outcome → State → Prop} {free : Addr → Prop} {Ts : List Cond} {own C : String} {b : Addr} {As rest : List Value} {g : JFrame}
    (S : CallFix p m c cc nL s args Ts own) (hM : Met l y ws rm Pc Qc mc ms free) (cw : vx_CVW R s args own C index y bytes maxL ret hh ws rm mc ms n) (hp : PreV s H C b Pc As)
    (hg : g.method = m) (hn : As.length = n) (hsize : g.locals.size = nL) (hstack : g.stack = As.reverse ++ .ref b :: rest) (hW : 2 * g.monitorRoom + (rest.map fun v => v.category).sum ≤ 8) (hdg : decode cc g.pc = .ok (.invokevirtual index, 3)) (hf : cells + mc ≤ R.cells ∧ slots + ms ≤ R.slots) :
    va_Run p l e R s m args below meth c H locs cells slots mc ms g rest (Qc (Value.ref b :: As).toArray) free := by
  obtain ⟨⟨hrc, hrs, hfr, hlo, hws, hcw⟩, hcode, hini, hy, hlen, hl, hin, hse⟩ := cw
  have hK : Back l R p e below s args y 3 8 (PreOf R mc ms Pc) (PostOf Qc mc ms free) := va_backW (hh := hh) (bytes := bytes) (maxL := maxL) (ret := ret) hM hp.1 hrc hrs hfr hlo hws hcw (fun a' U hW => word_at hW (Or.inl (by first | rfl | simp [Cond.onTables, Cond.keeps, Cond.steady])) hini)
  obtain ⟨hx, hb, hml, ho, -⟩ := S
  obtain ⟨-, ⟨cellB, hcB, hoB, hclB⟩, hPc⟩ := hp
  intro T hT X
  obtain ⟨v, vm₁, ⟨U', l2, c2, s2⟩, hW₁, X', ⟨g', mk, t, L, e1, e2, hq, h1, hL, h2, h3⟩, st⟩ := vx_callVW X hx (C := C) (hh := hh) (bytes := bytes) (maxL := maxL) (ret := ret) ho hl hin hse hcode hy hK (by rw [hT]; exact hcB) hoB hclB hg (hsize.trans hml.symm) (argsL := As) (rest := rest) (fun sig h => hn.trans (hlen sig h)) hstack hW (by rw [hb]; exact hdg)
    (fun vm₁ hW₁ => ⟨hf.1, hf.2, hPc (T.setVm vm₁) hT hW₁⟩)
  dsimp only [Pt.U, Pt.locs, Pt.cells, Pt.slots] at X' e1 e2 h1 h2 h3 st
  subst h1; subst h2; subst h3
  exact ⟨v, (T.setVm vm₁).calling g' mk (Value.ref b :: As).toArray, t, U', L, hT, X', hL, e1, e2, hq, st⟩
section
variable {y : MethodName} {bytes cc : ByteArray} {maxL nL mc ms n index : Nat} {ret : Option FieldType} {ws : List Cond} {rm : Room} {Pc : Array Value → State → Prop} {Qc : Array Value → State → Outcome → State → Prop} {XC : String → State → State → Prop} {free : Addr → Prop} {Ts : List Cond} {own C : String} {b : Addr} {As rest : List Value} {g : JFrame}
theorem vx_runVX {hh : List (Nat × Nat × Nat × Nat)} (S : CallFix p m c cc nL s args Ts own) (hM : vx_Met l y ws rm Pc Qc XC mc ms free) (cw : vx_CVW R s args own C index y bytes maxL ret hh ws rm mc ms n) (hp : PreV s H C b Pc As)
    (hg : g.method = m) (hn : As.length = n) (hsize : g.locals.size = nL) (hstack : g.stack = As.reverse ++ .ref b :: rest) (hW : 2 * g.monitorRoom + (rest.map fun v => v.category).sum ≤ 8) (hdg : decode cc g.pc = .ok (.invokevirtual index, 3)) (hf : cells + mc ≤ R.cells ∧ slots + ms ≤ R.slots) :
    vx_Run p l e R s m args below meth c H locs cells slots mc ms g rest (Qc (Value.ref b :: As).toArray) XC free := by
  obtain ⟨⟨hrc, hrs, hfr, hlo, hws, hcw⟩, hcode, hini, hy, hlen, hl, hin, hse⟩ := cw
  have hK : vx_Back l R p e below s args y 3 8 (PreOf R mc ms Pc) (PostOf Qc mc ms free) (vx_Post XC mc ms free) := vx_backW (hh := hh) (bytes := bytes) (maxL := maxL) (ret := ret) hM hp.1 hrc hrs hfr hlo hws hcw (fun a' U hW => word_at hW (Or.inl (by first | rfl | simp [Cond.onTables, Cond.keeps, Cond.steady])) hini)
  obtain ⟨hx, hb, hml, ho, -⟩ := S
  obtain ⟨-, ⟨cellB, hcB, hoB, hclB⟩, hPc⟩ := hp
  intro T hT X
  rcases vx_callVX X hx (C := C) (hh := hh) (bytes := bytes) (maxL := maxL) (ret := ret) ho hl hin hse hcode hy hK (by rw [hT]; exact hcB) hoB hclB hg (hsize.trans hml.symm) (argsL := As) (rest := rest) (fun sig h => hn.trans (hlen sig h)) hstack hW (by rw [hb]; exact hdg)
    (fun vm₁ hW₁ => ⟨hf.1, hf.2, hPc (T.setVm vm₁) hT hW₁⟩) with ⟨v, vm₁, ⟨U', l2, c2, s2⟩, hW₁, X', ⟨g', mk, t, L, e1, e2, hq, h1, hL, h2, h3⟩, st⟩ | ⟨q, vm₁, ⟨U', l2, c2, s2⟩, hW₁, X', ⟨g', mk, t, L, E, ce, e1, e2, hq, hce, hcv, hcl, h1, hL, h2, h3⟩, st⟩
  · dsimp only [Pt.U, Pt.locs, Pt.cells, Pt.slots] at X' e1 e2 h1 h2 h3 st
    subst h1; subst h2; subst h3
    exact Or.inl ⟨v, (T.setVm vm₁).calling g' mk (Value.ref b :: As).toArray, t, U', L, hT, X', hL, e1, e2, hq, st⟩
  · dsimp only [Pt.U, Pt.locs, Pt.cells, Pt.slots] at X' e1 e2 h1 h2 h3 st hcl
    subst h1; subst h2; subst h3
    exact Or.inr ⟨q, (T.setVm vm₁).calling g' mk (Value.ref b :: As).toArray, t, U', L, E, ce, hT, X', hL, e1, e2, hq, hce, hcv, vx_cls hW₁ hcl, st⟩
theorem vx_runSX {hh : List (Nat × Nat × Nat × Nat)} (S : CallFix p m c cc nL s args Ts own) (hM : vx_Met l y ws rm Pc Qc XC mc ms free) (cw : vx_CSW R s args own index y bytes maxL ret hh ws rm mc ms n) (hp : PreS s H Pc As)
    (hg : g.method = m) (hn : As.length = n) (hsize : g.locals.size = nL) (hstack : g.stack = As.reverse ++ rest) (hW : 2 * g.monitorRoom + (rest.map fun v => v.category).sum ≤ 8) (hdg : decode cc g.pc = .ok (.invokestatic index, 3)) (hf : cells + mc ≤ R.cells ∧ slots + ms ≤ R.slots) :
    vx_Run p l e R s m args below meth c H locs cells slots mc ms g rest (Qc As.toArray) XC free := by
  obtain ⟨⟨hrc, hrs, hfr, hlo, hws, hcw⟩, hcode, hini, hy, hlen, hl, hstt⟩ := cw
  have hK : vx_Back l R p e below s args y 3 8 (PreOf R mc ms Pc) (PostOf Qc mc ms free) (vx_Post XC mc ms free) := vx_backW (hh := hh) (bytes := bytes) (maxL := maxL) (ret := ret) hM hp.1 hrc hrs hfr hlo hws hcw (fun a' U hW => word_at hW (Or.inl (by first | rfl | simp [Cond.onTables, Cond.keeps, Cond.steady])) hini)
  obtain ⟨hx, hb, hml, ho, -⟩ := S
  intro T hT X
  rcases vx_callSX X hx (hh := hh) (bytes := bytes) (maxL := maxL) (ret := ret) ho hl hstt hini hcode hy hK hg (hsize.trans hml.symm) (argsL := As) (rest := rest) (fun sig h => hn.trans (hlen sig h)) hstack hW (by rw [hb]; exact hdg)
    (fun vm₁ hW₁ => ⟨hf.1, hf.2, hp.2 (T.setVm vm₁) hT hW₁⟩) with ⟨v, vm₁, ⟨U', l2, c2, s2⟩, hW₁, X', ⟨g', mk, t, L, e1, e2, hq, h1, hL, h2, h3⟩, st⟩ | ⟨q, vm₁, ⟨U', l2, c2, s2⟩, hW₁, X', ⟨g', mk, t, L, E, ce, e1, e2, hq, hce, hcv, hcl, h1, hL, h2, h3⟩, st⟩
  · dsimp only [Pt.U, Pt.locs, Pt.cells, Pt.slots] at X' e1 e2 h1 h2 h3 st
    subst h1; subst h2; subst h3
    exact Or.inl ⟨v, (T.setVm vm₁).calling g' mk As.toArray, t, U', L, hT, X', hL, e1, e2, hq, st⟩
  · dsimp only [Pt.U, Pt.locs, Pt.cells, Pt.slots] at X' e1 e2 h1 h2 h3 st hcl
    subst h1; subst h2; subst h3
    exact Or.inr ⟨q, (T.setVm vm₁).calling g' mk As.toArray, t, U', L, E, ce, hT, X', hL, e1, e2, hq, hce, hcv, vx_cls hW₁ hcl, st⟩
end
end VXH
theorem vx_ofWH {l : Launch} {y : MethodName} {ws ws' : List Cond} {rm : Room} {Pc : Array Value → State → Prop} {Qc : Array Value → State → Outcome → State → Prop} {XC : String → State → State → Prop} {mc ms : Nat} {free : Addr → Prop} {cc : ByteArray} {maxL : Nat} {ret : Option FieldType} {hh : List (Nat × Nat × Nat × Nat)}
    (hy : plainName y.cls = true) (hw : ws = Cond.codeWith y cc maxL ret hh :: ws')
    (body : ∀ p e s m args below meth c s₁, BodyLoose p l y (headSpec ws rm) cc maxL ret e s m args below meth c s₁ → c.maxLocals = maxL → Pc args s →
      W p l e (headSpec ws rm).room s m args below meth c s.heap [] 0 0 (vx_MQ below Qc XC args s mc ms free) (entryFrame m args maxL)) : vx_Met l y ws rm Pc Qc XC mc ms free := by
  refine MetFree.of_bodyS (code := cc) (maxLocals := maxL) (ret := ret) hy ?_ ?_
  · intro args s m h hn
    obtain ⟨m9, meth, c, hn9, h1, h2, h3, h4, -, h5, h6, -⟩ := Cond.codeWith_spec (atoms_spec (ws := ws) h _ (by rw [hw]; exact List.mem_cons_self))
    cases hn.symm.trans hn9
    exact ⟨meth, c, h1, h2, h3, h4, h5, h6⟩
  · intro p e s m args below meth c s₁ B hml hP _
    have hh0 : s₁.heap = s.heap := by rw [B.state]; rfl
    obtain ⟨t, a1, o, b1, b2, b3⟩ := body p e s m args below meth c s₁ B hml hP s₁ hh0 (Stand.of_body B)
    exact ⟨t, o, a1, b1, b2, b3⟩
/-! ===== END ===== -/
end
section
/-! 'throw new NoSuchElementException(text)': her constructor calls the one above by the number 13 (the kit's row has 7); follows the library's proof of ctorThrowS and the kit's vx_throwS -/
abbrev nx_N : String := "java/util/NoSuchElementException"
abbrev nx_R : String := "java/lang/RuntimeException"
def nx_six : ByteArray := ⟨#[0x2a, 0x2b, 0xb7, 0x00, 0x0d, 0xb1]⟩
def nx_rest (own : String) (ic : Nat) : List Cond :=
  [.methodLink own ic (Bundle.initS nx_N), .instantiable nx_N 6, .castable nx_N nx_N, .selects nx_N Bundle.tFill0 Bundle.tFill0, .selects nx_N Bundle.tFill Bundle.tFill,
   .lays nx_N Bundle.tN "cause" "Ljava/lang/Throwable;", .lays nx_N Bundle.tN "stackTrace" Bundle.steD, .lays nx_N Bundle.tN "suppressedExceptions" Bundle.listD, .lays nx_N Bundle.tN "detailMessage" "Ljava/lang/String;",
   .fieldLink Bundle.tN 198 Bundle.tN "backtrace" "Ljava/lang/Object;", .lays Bundle.tN Bundle.tN "backtrace" "Ljava/lang/Object;", .lays nx_N Bundle.tN "backtrace" "Ljava/lang/Object;"]
def nx_atoms (own : String) (ic : Nat) : List Cond := Bundle.throwableAtoms ++ Bundle.throwableSAtoms ++ Bundle.passSAtoms nx_N nx_R 13 nx_six ++ Bundle.chainSAtoms nx_R ["java/lang/Exception"] ++ nx_rest own ic
set_option maxHeartbeats 4000000 in
theorem nx_ctor {p : Program} {l : Launch} {e : Env} {R : Room} {s : State} {m₀ : MethodId} {args : Array Value} {below : List Frame} {meth : Method} {c : Code} {W : State} {locs : List Loc} {cells slots : Nat}
    (X : Stand p l e R s m₀ args below meth c W locs cells slots) (hexec : p.tables.exec = Jvm.exec) (htr : e.platform.stackTraces = false) {own : String} {ic : Nat}
    (hown : s.vm.findClass own = some m₀.cls) (h : ∀ a ∈ nx_atoms own ic, a.before args s = true)
    (hU0 : (Cond.isRef (.static Bundle.tN "UNASSIGNED_STACK" Bundle.steD)).before args s = true) (hN0 : (Cond.isRef (.static Bundle.tN "SUPPRESSED_SENTINEL" Bundle.listD)).before args s = true)
    (hlocs : ∀ x ∈ locs, ∀ cell, s.heap[x.base]? = some cell → cell.vm.isStatics = false)
    {a : Addr} {cX : ClassId} {kX : Class} (hfoundX : s.vm.findClass nx_N = some cX) (hkX : s.vm.classes[cX]? = some kX) (hcell : W.heap[a]? = some (freshCell cX kX)) (hnew : s.heap.size ≤ a)
    {msg : Value} (hmsg : msg.isRef = true)
    {g : JFrame} (hg : g.method = m₀) (hsize : g.locals.size = c.maxLocals) (hlocked : g.locked = none) (hentered : g.entered = []) {rest : List Value} (hstack : g.stack = msg :: .ref a :: .ref a :: rest)
    (hd6 : decode c.code g.pc = .ok (.invokespecial ic, 3)) (hd9 : decode c.code (g.pc + 3) = .ok (.athrow, 1)) (hout : ∀ x ∈ c.exceptionTable.toList, covers x (g.pc + 3) = false)
    (hRframes : 5 < R.frames) (hRlocals : 2 * g.monitorRoom + ((Value.ref a :: rest).map fun v => v.category).sum + 81 ≤ R.locals) (hlocks : meth.locks = false) :
    ∃ U : State, Steps p.tables e below (W.setTop g) U ∧ U.status = .running ∧ Ended U below (.threw a) ∧ s.WarmedH U.vm ∧ s.sameButNew ({ U with vm := s.vm } : State) locs cells slots ∧
      ∃ ce, U.heap[a]? = some ce ∧ ce.vm = .none ∧ s.vm.findClass nx_N = some ce.cls := by
  have howns : e.platform.frameOwnsMonitors = true := by rw [X.admits.platform]
  have hfin : e.platform.finalization = false := by rw [X.admits.platform]
  have hpl : e.platform.magicAccessors = ({} : Platform).magicAccessors := by rw [X.admits.platform]
  have a' : ∀ x, x ∈ nx_atoms own ic → x.holds args s none s [] = true := fun x hx => h x hx
  obtain ⟨T, Z0, L, -, Y⟩ := ThrowableC.of_atoms (args := args) howns hfin hpl (fun x hx => h x (by simp [nx_atoms, hx]))
  obtain ⟨Z, M, LZ, LM, hnZ⟩ := Init0T.ofS_atoms (args := args) hpl L Y (fun x hx => h x (by simp [nx_atoms, hx]))
  obtain ⟨P2, Ps2, hlen, L2, hL2, hP2m, hlink2, hlinks2⟩ := Bundle.chainS (args := args) hpl hnZ ["java/lang/Exception"] nx_R (by decide +kernel) (by decide +kernel) (fun x hx => h x (by simp [nx_atoms, hx]))
  obtain ⟨P1, L1, hP1m, hsup1⟩ := PassC.ofS_atoms (args := args) (s := s) hpl (X := nx_N) (Y := nx_R) (index := 13) (bytes := nx_six) (by decide +kernel) (by decide +kernel) (by decide +kernel) (by decide +kernel) (by decide +kernel) (by decide +kernel) (fun x hx => h x (by simp [nx_atoms, hx]))
  have hlink1 : P1.sup = P2.m := Option.some.inj (hsup1.symm.trans hP2m)
  have hfound : s.vm.findClass nx_N = some P1.m.cls := findClass_of_methodNamed hP1m
  cases Option.some.inj (hfoundX.symm.trans hfound)
  obtain ⟨c1, kX', hc1, hk, hord, -, -, hn6⟩ := Cond.instantiable_spec (a' (.instantiable nx_N 6) (by simp [nx_atoms, nx_rest]))
  cases Option.some.inj (hc1.symm.trans hfound)
  cases Option.some.inj (hkX.symm.trans hk)
  have hsel0 : selectMethod e.platform s.vm P1.m.cls T.fill0 = .method T.fill0 := by
    obtain ⟨c2, r2, m2, q1, q2, q3, q4, -⟩ := Cond.selects_spec (a' (.selects nx_N Bundle.tFill0 Bundle.tFill0) (by simp [nx_atoms, nx_rest]))
    cases Option.some.inj (q1.symm.trans hfound)
    cases Option.some.inj (q2.symm.trans (State.methodFound?_of_named Y.fill0 (by decide)))
    cases Option.some.inj (q3.symm.trans Y.fill0)
    rw [Launch.admits_selectMethod X.admits]; exact q4
  have hselF : selectMethod e.platform s.vm P1.m.cls T.fill = .method T.fill := by
    obtain ⟨c2, r2, m2, q1, q2, q3, q4, -⟩ := Cond.selects_spec (a' (.selects nx_N Bundle.tFill Bundle.tFill) (by simp [nx_atoms, nx_rest]))
    cases Option.some.inj (q1.symm.trans hfound)
    cases Option.some.inj (q2.symm.trans (State.methodFound?_of_named Y.fill (by decide)))
    cases Option.some.inj (q3.symm.trans Y.fill)
    rw [Launch.admits_selectMethod X.admits]; exact q4
  obtain ⟨cellS0, hcS0, hiss⟩ := Y.statics
  obtain ⟨u0, hu0⟩ := Cond.staticRefV Y.unassigned L.unassignedStatic L.statics hcS0 hiss hU0
  obtain ⟨sen, hsen⟩ := Cond.staticRefV Y.sentinel L.sentinelStatic L.statics hcS0 hiss hN0
  obtain ⟨ci198, i198, fB, hk198, hg198, ha198, hsB, -, hnB, htB, hffB⟩ := Cond.ownField (t := .object "java/lang/Object") Y.found L.cls (by decide +kernel) (a' (.fieldLink Bundle.tN 198 Bundle.tN "backtrace" "Ljava/lang/Object;") (by simp [nx_atoms, nx_rest])) (a' (.lays Bundle.tN Bundle.tN "backtrace" "Ljava/lang/Object;") (by simp [nx_atoms, nx_rest])) e.platform hpl
  obtain ⟨cellS, hcS', heS, -, hkeep⟩ := X.same.2.2.2.2.2 T.aS cellS0 hcS0
  have hcellS : W.heap[T.aS]? = some cellS := hcS'
  have hout' : ∀ i, (⟨T.aS, i⟩ : Loc) ∉ locs := fun i hmem => by
    have := hlocs _ hmem cellS0 hcS0
    rw [hiss] at this; cases this
  have hknownS : cellS.vm ≠ .unknown := by
    rw [heS]; intro hu
    rw [show cellS0.vm = .unknown from hu] at hiss
    cases hiss
  have hneS : T.aS ≠ a := Nat.ne_of_lt (Nat.lt_of_lt_of_le (Array.getElem?_eq_some_iff.mp hcS0).1 hnew)
  obtain ⟨iM, hffM⟩ := Y.msg
  obtain ⟨tyC, dC, hdC, hdnC⟩ := Cond.laysAt hfound hk Y.cause (a' (.lays nx_N Bundle.tN "cause" "Ljava/lang/Throwable;") (by simp [nx_atoms, nx_rest]))
  obtain ⟨tyS, dS, hdS, hdnS⟩ := Cond.laysAt hfound hk Y.stack (a' (.lays nx_N Bundle.tN "stackTrace" Bundle.steD) (by simp [nx_atoms, nx_rest]))
  obtain ⟨tyP, dP, hdP, hdnP⟩ := Cond.laysAt hfound hk Y.supp (a' (.lays nx_N Bundle.tN "suppressedExceptions" Bundle.listD) (by simp [nx_atoms, nx_rest]))
  obtain ⟨tyM, dM, hdM, hdnM⟩ := Cond.laysAt hfound hk hffM (a' (.lays nx_N Bundle.tN "detailMessage" "Ljava/lang/String;") (by simp [nx_atoms, nx_rest]))
  obtain ⟨tyB, dB, hdB, hdnB⟩ := Cond.laysAt hfound hk hffB (a' (.lays nx_N Bundle.tN "backtrace" "Ljava/lang/Object;") (by simp [nx_atoms, nx_rest]))
  have bC := Cond.laysApart hdB hdC hdnB hdnC (by rw [hnB, Y.causeName]; decide)
  have bS := Cond.laysApart hdB hdS hdnB hdnS (by rw [hnB, Y.stackName]; decide)
  have bP := Cond.laysApart hdB hdP hdnB hdnP (by rw [hnB, Y.suppName]; decide)
  have hskip : SkipFacts T e.platform s (fun u => u) u0 ((preparedCellV T.toThrowableT (freshCell P1.m.cls kX) a u0 sen).withEntry W.cur) :=
    ⟨{ ci198 := ci198, i198 := i198, fBack := fB }, ⟨hk198, hg198, ha198, hsB⟩, by
      have := fresh_default (c := P1.m.cls) tyB
      rw [htB] at this
      simpa [preparedCellV, Cell.setSlot, Cell.withEntry, Array.getElem?_setIfInBounds, bC, bS, bP, bC.symm, bS.symm, bP.symm, defaultValue] using this, fun _ _ => rfl⟩
  obtain ⟨tm, methC, cdC, kC, vm₁, hnC, -, -, -, -, -, -, -, hW₁, st1⟩ := Steps.initColdS (tb := p.tables) (e := e) (below := below) (s := s) (U := W) X.here hexec X.warmed hpl hown (t := Bundle.initS nx_N) rfl rfl ⟨by decide, by decide⟩
    (a' (.methodLink own ic (Bundle.initS nx_N)) (by simp [nx_atoms, nx_rest])) (h (.instanceMethod (Bundle.initS nx_N)) (by simp [nx_atoms, Bundle.passSAtoms])) (bytes := nx_six) (maxL := 2) (h (.code (Bundle.initS nx_N) nx_six 2 none) (by simp [nx_atoms, Bundle.passSAtoms]))
    (f := g) hg (a := a) (msg := msg) (rest := .ref a :: rest) hstack hd6
  cases Option.some.inj (hnC.symm.trans hP1m)
  have X₁ := X.noted hW₁
  have hlen2 : Ps2.length = 1 := hlen
  obtain ⟨vm₂, X₂, st2⟩ := X₁.ctorMessageOffV hexec (g := { g with stack := .ref a :: rest }) hg hsize T L Z LZ M LM (P1 :: P2 :: Ps2)
    (fun P hP => by
      rcases List.mem_cons.mp hP with rfl | hP
      · exact L1
      · rcases List.mem_cons.mp hP with rfl | hP
        · exact L2
        · exact hL2 P hP) ⟨hlink1, hlink2, hlinks2⟩ (u0 := u0) (sen := sen) (self := a) hmsg (cell := freshCell P1.m.cls kX) (cellS := cellS)
    hcell (fun _ => by simp) (by simp) rfl rfl hsel0 hselF hcellS hneS hknownS (by rw [hkeep _ (hout' _)]; exact hu0) (by rw [hkeep _ (hout' _)]; exact hsen)
    (Takes.of_laid hk hord tyC (by rw [Y.causeType]; rfl)) (Takes.of_laid hk hord tyS (by rw [Y.stackType]; exact fits_refV_array _ u0)) (Takes.of_laid hk hord tyP (by rw [Y.suppType]; exact fits_refV_object _ sen))
    (Takes.of_laid hk hord tyM (by rw [Y.msgType]; exact fits_refV_object _ ⟨msg, hmsg⟩)) Y.objLocals hskip htr [] hd6
    (by simp only [List.length_cons, hlen2]; omega) (by simp only [List.length_cons, hlen2]; exact hRlocals)
  obtain ⟨hwalk, hrun, hended, hWU, hsame⟩ := X₂.athrowLeaves hexec (g := { g with stack := .ref a :: rest, pc := g.pc + 3 }) hg hlocked hentered hout (a := a) (rest := rest) rfl hd9
  have hlt : a < ((W.setVm vm₁).setVm vm₂).heap.size := (Array.getElem?_eq_some_iff.mp hcell).1
  have hU := heapAt_setCell_self (s := (W.setVm vm₁).setVm vm₂) (plainBareV T.toThrowableT (freshCell P1.m.cls kX) a u0 sen msg) hlt
  refine ⟨_, st1 _ (fun acts => ?_), hrun, hended, hWU, hsame.weaken (fun y hy hlt' => ?_) (Nat.le_refl _) (Nat.le_refl _), _, hU, rfl, hfound⟩
  · rw [doInvoke_state]
    exact st2 _ hwalk
  · rcases List.mem_append.mp hy with h1 | h1
    · exact h1
    · exfalso
      have hb : y.base = a := by
        simp only [List.mem_cons, List.not_mem_nil, or_false] at h1
        rcases h1 with rfl | rfl | rfl | rfl | rfl <;> rfl
      rw [hb] at hlt'
      exact Nat.not_lt.mpr hnew hlt'
end
section
/-! the throw as one row; follows the kit's vx_throwS, vx_throwSW -/
set_option maxHeartbeats 4000000 in
theorem nx_throw {p : Program} {l : Launch} {e : Env} {R : Room} {s : State} {m : MethodId} {args : Array Value} {below : List Frame} {meth : Method} {c : Code} {H : Heap} {locs : List Loc} {cells slots : Nat} {Qc : Array Value → State → Outcome → State → Prop} {XC : String → State → State → Prop} {free : Addr → Prop} {ls : Array Slot} {cc : ByteArray} {pc : Nat}
    (hexec : p.tables.exec = Jvm.exec) (hb : c.code = cc) (hl : l.stackTraces = false) {own text : String} {ik is ic mc ms sa : Nat} {A : Nat → Prop}
    (hown : s.vm.findClass own = some m.cls) (hk : (Cond.classLink own ik nx_N).before args s = true) (hini : (Cond.initialized nx_N).before args s = true) (hstr : vk_R own is text sa s) (hat : ∀ w ∈ (nx_atoms own ic).filter vx_no, w.before args s = true)
    (hgood : ∀ w ∈ Cond.classLink own ik nx_N :: Cond.initialized nx_N :: (nx_atoms own ic).filter vx_no, vx_ot w = true)
    (hU : vx_Zq Bundle.tN "UNASSIGNED_STACK" Bundle.steD A s s.heap) (hN : vx_Zq Bundle.tN "SUPPRESSED_SENTINEL" Bundle.listD A s s.heap) (hS : va_S A s.heap H locs) (hsize : ls.size = c.maxLocals)
    (d0 : decode cc pc = .ok (.new ik, 3)) (d3 : decode cc (pc + 3) = .ok (.dup, 1)) (d4 : decode cc (pc + 4) = .ok (.ldc is, 2)) (d6 : decode cc (pc + 6) = .ok (.invokespecial ic, 3)) (d9 : decode cc (pc + 9) = .ok (.athrow, 1))
    (hout : ∀ x ∈ c.exceptionTable.toList, covers x (pc + 9) = false) (hRframes : 5 < R.frames) (hRlocals : 82 ≤ R.locals) (hRcells : cells + 1 ≤ R.cells) (hRslots : slots + 6 ≤ R.slots) (hlocks : meth.locks = false)
    (hx : ∀ t : State, s.vm.Alike t.vm → H.size ≤ t.heap.size → (∀ q : Nat, q < H.size → t.heap[q]? = H[q]?) → XC nx_N s t) (hf : ∀ z ∈ locs, free z.base) (hc : cells + 1 ≤ mc) (hs : slots + 6 ≤ ms) :
    W p l e R s m args below meth c H locs cells slots (vx_MQ below Qc XC args s mc ms free) (F0 m pc ls []) := by
  intro T hT X
  have htr : e.platform.stackTraces = false := (show e.platform.stackTraces = l.stackTraces by rw [X.admits.platform]).trans hl
  have Y := vx_rebase X (R' := { frames := R.frames, locals := R.locals, cells := 1, slots := 6 }) (Nat.le_refl _) (Nat.le_refl _) hRcells hRslots
  obtain ⟨s', hA⟩ : ∃ z, z = (T.setVm s.vm).setFrames (.invoking m args :: below) := ⟨_, rfl⟩
  rw [← hA] at Y
  have hvm : s'.vm = s.vm := by rw [hA]; rfl
  have hhp : s'.heap = H := by rw [hA]; exact hT
  have hW0 : s.WarmedH s'.vm := by rw [hvm]; exact State.WarmedH.refl s
  have hat' : ∀ w ∈ (nx_atoms own ic).filter vx_no, w.before args s' = true := fun w hw => vx_ot_at hW0 hvm.symm (hgood w (List.mem_cons_of_mem _ (List.mem_cons_of_mem _ hw))) (hat w hw)
  have hk' : (Cond.classLink own ik nx_N).before args s' = true := vx_ot_at hW0 hvm.symm (hgood _ List.mem_cons_self) hk
  have hini' : (Cond.initialized nx_N).before args s' = true := vx_ot_at hW0 hvm.symm (hgood _ (List.mem_cons_of_mem _ List.mem_cons_self)) hini
  have hU' : vx_Zq Bundle.tN "UNASSIGNED_STACK" Bundle.steD A s' s'.heap := by rw [hhp]; exact vx_Zq.moved hW0.alike (hU.kept hS.2.1)
  have hN' : vx_Zq Bundle.tN "SUPPRESSED_SENTINEL" Bundle.listD A s' s'.heap := by rw [hhp]; exact vx_Zq.moved hW0.alike (hN.kept hS.2.1)
  have hUr : (Cond.isRef (.static Bundle.tN "UNASSIGNED_STACK" Bundle.steD)).before args s' = true := vx_isRefq hU'.1
  have hNr : (Cond.isRef (.static Bundle.tN "SUPPRESSED_SENTINEL" Bundle.listD)).before args s' = true := vx_isRefq hN'.1
  have h : ∀ w ∈ nx_atoms own ic, w.before args s' = true := vx_own hat' hUr hNr hU'.2.word hN'.2.word
  have hown' : s'.vm.findClass own = some m.cls := by rw [hvm]; exact hown
  have hins : (Cond.instantiable nx_N 6).before args s' = true := h _ (by simp [nx_atoms, nx_rest])
  obtain ⟨vm₁, cX, kX, hfX, hkX, -, -, X₁, st1⟩ := Y.newCold hexec (own := own) (C := nx_N) (index := ik) (n := 6) hown' hk' hins hini'
    (g := F0 m pc ls []) rfl (by rw [hb]; exact d0) (Nat.le_refl _) (Nat.le_refl _)
  generalize hT1 : (T.setVm vm₁).pushCell { cls := cX, slots := kX.instanceTypes.map defaultValue, vm := .none } = T1 at X₁ st1
  have hcat : (Value.ref T.heap.size).category = 1 := rfl
  have hcellA : T1.heap[T.heap.size]? = some (freshCell cX kX) := by rw [← hT1]; exact State.heap_pushCell_size _ _
  have d3' : decode c.code (pc + 3) = .ok (.dup, 1) := by rw [hb]; exact d3
  have d4' : decode c.code (pc + 4) = .ok (.ldc is, 2) := by rw [hb]; exact d4
  have hstr' : vk_R own is text sa s' := vk_R.warm hW0 hstr
  obtain ⟨U, hsteps, hrun, hend, hW, hsame, ce, hce, hv, hcl0⟩ := nx_ctor X₁ hexec htr (own := own) (ic := ic) hown' h hUr hNr (fun x hx => nomatch hx) hfX hkX hcellA (by rw [hhp, hT]; exact Nat.le_refl _) (msg := .ref sa) rfl
    (g := { method := m, pc := pc + 6, locals := ls, stack := .ref sa :: .ref T.heap.size :: .ref T.heap.size :: [], locked := none }) rfl hsize rfl rfl (rest := []) rfl
    (by rw [hb]; exact d6) (by rw [hb]; exact d9) hout hRframes (by simp only [List.map_cons, List.map_nil, List.sum_cons, List.sum_nil, hcat]; show 2 * 0 + (1 + 0) + 81 ≤ R.locals; omega) hlocks
  obtain ⟨f1, f2⟩ := vx_frame hsame
  rw [hhp] at f1 f2
  have hWs : s.WarmedH U.vm := State.WarmedH.trans hW0 hW
  have hcl : s.vm.findClass nx_N = some ce.cls := by rw [hvm] at hcl0; exact hcl0
  have hall : s.sameButNew ({ U with vm := s.vm } : State) locs mc ms := by
    subst hA
    obtain ⟨e1, e2⟩ := hsame
    rw [State.setFrames_setFrames] at e1
    have h2 : (T.setVm s.vm).sameButNew ({ U with vm := s.vm } : State) [] (0 + 1) (0 + 6) := ⟨e1, e2⟩
    have h3 := X.same.trans h2
    rw [List.append_nil] at h3
    exact h3.mono hc hs
  refine ⟨U, ?_, .threw T.heap.size, hrun, hend, Or.inr ⟨T.heap.size, rfl, nx_N, ce, locs, hx U hWs.alike f1 (fun q hq => f2 q hq (fun z hz => nomatch hz)), hce, hv, hcl, hWs, hall, hf⟩⟩
  refine st1 _ ?_
  show Steps p.tables e below (T1.setTop { method := m, pc := pc + 3, locals := ls, stack := .ref T.heap.size :: [], locked := none }) _
  jvm_step X₁.here [X₁.here.top, hexec, d3', Value.category]
  exact X₁.ldcString hexec (own := own) (text := text) (index := is) (a := sa) hown' hstr'.1 hstr'.2
    (g := { method := m, pc := pc + 4, locals := ls, stack := .ref T.heap.size :: .ref T.heap.size :: [], locked := none }) rfl d4' _ hsteps
set_option maxHeartbeats 4000000 in
theorem nx_throwW {p : Program} {l : Launch} {e : Env} {R : Room} {s : State} {m : MethodId} {args : Array Value} {below : List Frame} {meth : Method} {c : Code} {H : Heap} {locs : List Loc} {cells slots : Nat} {Qc : Array Value → State → Outcome → State → Prop} {XC : String → State → State → Prop} {free : Addr → Prop} {ls : Array Slot} {cc : ByteArray} {pc : Nat}
    (hexec : p.tables.exec = Jvm.exec) (hb : c.code = cc) (hl : l.stackTraces = false) {own text : String} {ik is ic mc ms sa : Nat} {A : Nat → Prop}
    (hown : s.vm.findClass own = some m.cls) (hk : (Cond.classLink own ik nx_N).before args s = true) (hini : (Cond.initialized nx_N).before args s = true) (hstr : vk_R own is text sa s) (hat : ∀ w ∈ (nx_atoms own ic).filter vx_no, w.before args s = true)
    (hgood : ∀ w ∈ Cond.classLink own ik nx_N :: Cond.initialized nx_N :: (nx_atoms own ic).filter vx_no, vx_ot w = true)
    (hU : vx_Zq Bundle.tN "UNASSIGNED_STACK" Bundle.steD A s s.heap) (hN : vx_Zq Bundle.tN "SUPPRESSED_SENTINEL" Bundle.listD A s s.heap) (hS : va_S A s.heap H locs) (hsize : ls.size = c.maxLocals)
    (d0 : decode cc pc = .ok (.new ik, 3)) (d3 : decode cc (pc + 3) = .ok (.dup, 1)) (d4 : decode cc (pc + 4) = .ok (.ldc_w is, 3)) (d6 : decode cc (pc + 7) = .ok (.invokespecial ic, 3)) (d9 : decode cc (pc + 10) = .ok (.athrow, 1))
    (hout : ∀ x ∈ c.exceptionTable.toList, covers x (pc + 10) = false) (hRframes : 5 < R.frames) (hRlocals : 82 ≤ R.locals) (hRcells : cells + 1 ≤ R.cells) (hRslots : slots + 6 ≤ R.slots) (hlocks : meth.locks = false)
    (hx : ∀ t : State, s.vm.Alike t.vm → H.size ≤ t.heap.size → (∀ q : Nat, q < H.size → t.heap[q]? = H[q]?) → XC nx_N s t) (hf : ∀ z ∈ locs, free z.base) (hc : cells + 1 ≤ mc) (hs : slots + 6 ≤ ms) :
    W p l e R s m args below meth c H locs cells slots (vx_MQ below Qc XC args s mc ms free) (F0 m pc ls []) := by
  intro T hT X
  have htr : e.platform.stackTraces = false := (show e.platform.stackTraces = l.stackTraces by rw [X.admits.platform]).trans hl
  have Y := vx_rebase X (R' := { frames := R.frames, locals := R.locals, cells := 1, slots := 6 }) (Nat.le_refl _) (Nat.le_refl _) hRcells hRslots
  obtain ⟨s', hA⟩ : ∃ z, z = (T.setVm s.vm).setFrames (.invoking m args :: below) := ⟨_, rfl⟩
  rw [← hA] at Y
  have hvm : s'.vm = s.vm := by rw [hA]; rfl
  have hhp : s'.heap = H := by rw [hA]; exact hT
  have hW0 : s.WarmedH s'.vm := by rw [hvm]; exact State.WarmedH.refl s
  have hat' : ∀ w ∈ (nx_atoms own ic).filter vx_no, w.before args s' = true := fun w hw => vx_ot_at hW0 hvm.symm (hgood w (List.mem_cons_of_mem _ (List.mem_cons_of_mem _ hw))) (hat w hw)
  have hk' : (Cond.classLink own ik nx_N).before args s' = true := vx_ot_at hW0 hvm.symm (hgood _ List.mem_cons_self) hk
  have hini' : (Cond.initialized nx_N).before args s' = true := vx_ot_at hW0 hvm.symm (hgood _ (List.mem_cons_of_mem _ List.mem_cons_self)) hini
  have hU' : vx_Zq Bundle.tN "UNASSIGNED_STACK" Bundle.steD A s' s'.heap := by rw [hhp]; exact vx_Zq.moved hW0.alike (hU.kept hS.2.1)
  have hN' : vx_Zq Bundle.tN "SUPPRESSED_SENTINEL" Bundle.listD A s' s'.heap := by rw [hhp]; exact vx_Zq.moved hW0.alike (hN.kept hS.2.1)
  have hUr : (Cond.isRef (.static Bundle.tN "UNASSIGNED_STACK" Bundle.steD)).before args s' = true := vx_isRefq hU'.1
  have hNr : (Cond.isRef (.static Bundle.tN "SUPPRESSED_SENTINEL" Bundle.listD)).before args s' = true := vx_isRefq hN'.1
  have h : ∀ w ∈ nx_atoms own ic, w.before args s' = true := vx_own hat' hUr hNr hU'.2.word hN'.2.word
  have hown' : s'.vm.findClass own = some m.cls := by rw [hvm]; exact hown
  have hins : (Cond.instantiable nx_N 6).before args s' = true := h _ (by simp [nx_atoms, nx_rest])
  obtain ⟨vm₁, cX, kX, hfX, hkX, -, -, X₁, st1⟩ := Y.newCold hexec (own := own) (C := nx_N) (index := ik) (n := 6) hown' hk' hins hini'
    (g := F0 m pc ls []) rfl (by rw [hb]; exact d0) (Nat.le_refl _) (Nat.le_refl _)
  generalize hT1 : (T.setVm vm₁).pushCell { cls := cX, slots := kX.instanceTypes.map defaultValue, vm := .none } = T1 at X₁ st1
  have hcat : (Value.ref T.heap.size).category = 1 := rfl
  have hcellA : T1.heap[T.heap.size]? = some (freshCell cX kX) := by rw [← hT1]; exact State.heap_pushCell_size _ _
  have d3' : decode c.code (pc + 3) = .ok (.dup, 1) := by rw [hb]; exact d3
  have d4' : decode c.code (pc + 4) = .ok (.ldc_w is, 3) := by rw [hb]; exact d4
  have hstr' : vk_R own is text sa s' := vk_R.warm hW0 hstr
  obtain ⟨U, hsteps, hrun, hend, hW, hsame, ce, hce, hv, hcl0⟩ := nx_ctor X₁ hexec htr (own := own) (ic := ic) hown' h hUr hNr (fun x hx => nomatch hx) hfX hkX hcellA (by rw [hhp, hT]; exact Nat.le_refl _) (msg := .ref sa) rfl
    (g := { method := m, pc := pc + 7, locals := ls, stack := .ref sa :: .ref T.heap.size :: .ref T.heap.size :: [], locked := none }) rfl hsize rfl rfl (rest := []) rfl
    (by rw [hb]; exact d6) (by rw [hb]; exact d9) hout hRframes (by simp only [List.map_cons, List.map_nil, List.sum_cons, List.sum_nil, hcat]; show 2 * 0 + (1 + 0) + 81 ≤ R.locals; omega) hlocks
  obtain ⟨f1, f2⟩ := vx_frame hsame
  rw [hhp] at f1 f2
  have hWs : s.WarmedH U.vm := State.WarmedH.trans hW0 hW
  have hcl : s.vm.findClass nx_N = some ce.cls := by rw [hvm] at hcl0; exact hcl0
  have hall : s.sameButNew ({ U with vm := s.vm } : State) locs mc ms := by
    subst hA
    obtain ⟨e1, e2⟩ := hsame
    rw [State.setFrames_setFrames] at e1
    have h2 : (T.setVm s.vm).sameButNew ({ U with vm := s.vm } : State) [] (0 + 1) (0 + 6) := ⟨e1, e2⟩
    have h3 := X.same.trans h2
    rw [List.append_nil] at h3
    exact h3.mono hc hs
  refine ⟨U, ?_, .threw T.heap.size, hrun, hend, Or.inr ⟨T.heap.size, rfl, nx_N, ce, locs, hx U hWs.alike f1 (fun q hq => f2 q hq (fun z hz => nomatch hz)), hce, hv, hcl, hWs, hall, hf⟩⟩
  refine st1 _ ?_
  show Steps p.tables e below (T1.setTop { method := m, pc := pc + 3, locals := ls, stack := .ref T.heap.size :: [], locked := none }) _
  jvm_step X₁.here [X₁.here.top, hexec, d3', Value.category]
  exact X₁.ldcStringW hexec (own := own) (text := text) (index := is) (a := sa) hown' hstr'.1 hstr'.2
    (g := { method := m, pc := pc + 4, locals := ls, stack := .ref T.heap.size :: .ref T.heap.size :: [], locked := none }) rfl d4' _ hsteps
end
section
/-! methods that return or throw -/
/-- the words of a throw -/
def nx_wds : List Cond := Cond.classLink "NameNotes" 211 nx_N :: Cond.initialized nx_N :: (nx_atoms "NameNotes" 215).filter vx_no
theorem nx_wds_good : ∀ w ∈ nx_wds, vx_ot w = true := by decide +kernel
theorem nx_wds_by : ∀ w ∈ nx_wds, w ∈ tables_1_6 ++ (tables_1_1 ++ (tables_1_10 ++ (tables_1_7 ++ (tables_1_5 ++ (tables_1_2 ++ (tables_1_3 ++ (tables_1_4 ++ (tables_1_8 ++ (tables_1_9))))))))) := by decide +kernel
theorem nx_wds_in : ∀ w ∈ nx_wds, w ∈ lw_tbl := by
  intro w hw
  have h := nx_wds_by w hw
  refine List.mem_append_right _ ?_
  unfold tables_1
  simp only [List.mem_append] at h ⊢
  rcases h with h | h | h | h | h | h | h | h | h | h <;> simp only [h, true_or, or_true]
/-- words that tables alike bear alike -/
def nx_alk : Cond → Bool
  | .declares _ => true
  | .castable _ _ => true
  | _ => false
theorem nx_alk_ok {w : Cond} {args a' : Array Value} {s U : State} (h : s.vm.Alike U.vm) (hw : nx_alk w = true) (hb : w.before args s = true) : w.before a' U = true := by
  have e := Cond.onTables_vm (A := a') (A' := args) (U := U) (U' := s) U.vm w (by cases w <;> first | rfl | cases hw)
  rw [State.setVm_self] at e
  rw [e]
  cases w with
  | declares x =>
    have hm : U.vm.method? = s.vm.method? := funext h.method?
    simp only [Cond.before, Cond.holds, Cond.value, State.vm_setVm, State.methodNamed?_setVm h, hm] at hb ⊢
    exact hb
  | castable a b =>
    simp only [Cond.before, Cond.holds, Cond.value, State.vm_setVm, h.findClass, h.assignable] at hb ⊢
    exact hb
  | _ => cases hw
def nx_bad : List Cond := nx_wds.filter (fun w => !goodWord w)
theorem nx_bad_alk : ∀ w ∈ nx_bad, nx_alk w = true := by decide +kernel
theorem nx_wds_of {args : Array Value} {s : State} (h1 : ∀ w ∈ nn_TT, w.before args s = true) (h2 : ∀ w ∈ nx_bad, w.before #[] s = true) : ∀ w ∈ nx_wds, w.before args s = true := by
  intro w hw
  cases hg : goodWord w with
  | true => exact h1 w (List.mem_filter.mpr ⟨nx_wds_in w hw, hg⟩)
  | false =>
    have hm : w ∈ nx_bad := List.mem_filter.mpr ⟨hw, by rw [hg]; rfl⟩
    exact nx_alk_ok (Vm.Alike.refl s.vm) (nx_bad_alk w hm) (h2 w hm)
/-- the two static fields that a new Throwable reads; four words of the tables -/
def nx_Z (A : Nat → Prop) (U : State) : Prop := vx_Zq Bundle.tN "UNASSIGNED_STACK" Bundle.steD A U U.heap ∧ vx_Zq Bundle.tN "SUPPRESSED_SENTINEL" Bundle.listD A U U.heap ∧ ∀ w ∈ nx_bad, w.before #[] U = true
theorem nx_Z_go {A B : Nat → Prop} {s U : State} (h : nx_Z A s) (hW : s.WarmedH U.vm) (hq : ∀ a : Nat, a < s.heap.size → ¬ A a → U.heap[a]? = s.heap[a]?) (hAB : ∀ q, B q → A q) : nx_Z B U :=
  ⟨((vx_Zq.moved hW.alike h.1).kept hq).narrow hAB, ((vx_Zq.moved hW.alike h.2.1).kept hq).narrow hAB, fun w hw => nx_alk_ok hW.alike (nx_bad_alk w hw) (h.2.2 w hw)⟩
theorem nx_Z_blind {A : Nat → Prop} {U : State} {g : JFrame} {mk : MethodId} {a : Array Value} (h : nx_Z A U) : nx_Z A (U.calling g mk a) :=
  ⟨vx_Zq.moved (u := U) (U := U.calling g mk a) (Vm.Alike.refl U.vm) h.1, vx_Zq.moved (u := U) (U := U.calling g mk a) (Vm.Alike.refl U.vm) h.2.1, fun w hw => nx_alk_ok (s := U) (U := U.calling g mk a) (Vm.Alike.refl U.vm) (nx_bad_alk w hw) (h.2.2 w hw)⟩
def nx_PC (cy : Nat → ClassId) (ad wr cr : Nat → Nat) (D : va_G) (σ : ab_SG) (av : List Value) (sz : Nat) : Array Value → State → Prop :=
  va_Pc av (fun U => U.heap.size = sz ∧ va_P D vwCl (ab_WD cy ad wr nn_sh σ) U.heap ∧ va_K D vwCl (ab_tys cy) U ∧ ab_okN nn_NW U ∧ ab_CB cy ad wr cr nn_kd (ab_A ad nn_sh.length sz) U ∧ nx_Z (ab_A ad nn_sh.length sz) U)
theorem nx_PC_blind {cy : Nat → ClassId} {ad wr cr : Nat → Nat} {D : va_G} {σ : ab_SG} {av : List Value} {sz : Nat} : FrameBlind (nx_PC cy ad wr cr D σ av sz) := by
  intro a U g mk h
  obtain ⟨h1, h2, h3, h4, h5, h6, h7⟩ := h
  exact ⟨h1, h2, h3, va_K.moved (u := U) (U := U.calling g mk a) (Vm.Alike.refl U.vm) h4, fun q hq => va_Nw.same rfl (u := U) (U := U.calling g mk a) rfl (h5 q hq), ab_CB_blind h6, nx_Z_blind h7⟩
/-- where it threw: an end, too -/
def nx_XC (cy : Nat → ClassId) (ad wr cr : Nat → Nat) (D : va_G) (n0 : Nat) (ρ0 : Nat → Int) (σ0 : ab_SG) (os : List ab_OU) (A : Nat → Prop) : String → State → State → Prop := fun E st t =>
  E = nx_N ∧ (∃ o ∈ os, ab_ps cy ad wr cr D vwCl nn_sh nn_T nn_C n0 ρ0 σ0 o none t.heap) ∧ va_F A st t
def nx_room (d : Nat) : Room := { frames := d + 10, cells := 1, slots := 6, locals := 40 * d + 200 }
/-- which method, how deep, its contract, its ends by throwing -/
abbrev nx_Q4 : Type := Nat × Nat × ab_CN × List ab_OU
def nx_H (l : Launch) (cy : Nat → ClassId) (ad wr cr : Nat → Nat) (D : va_G) (q : nx_Q4) : Prop :=
  ∀ mr : ab_MR, nn_MT[q.1]? = some mr → 0 < q.2.2.1.2.1.length ∧
    (mr.2.2.2.2.2.1 = true → ∃ (k : Nat) (z : Int) (as : List ab_AV) (ci : Nat) (fs : List (Nat × Nat)) (T9 : u_T) (N9 : Nat), q.2.2.1.1 = (2, k, z) :: as ∧ nn_sh[k]? = some (.inl (ci, fs)) ∧ vwCl[ci]? = some (mr.1.cls, T9, N9)) ∧
    ∀ (ρ : Nat → Int) (σ : ab_SG) (sz : Nat), ab_K nn_T nn_C σ q.2.2.1.2.1 q.2.2.1.2.2.1 q.2.2.1.2.2.2.1 [] ρ σ → (∀ a ∈ q.2.2.1.1, ab_sy q.2.2.1.2.1.length a) →
      vx_Met l mr.1 (Jvm.Cond.code mr.1 mr.2.1 mr.2.2.1 mr.2.2.2.1 :: nn_TT) (nx_room q.2.1) (nx_PC cy ad wr cr D σ (q.2.2.1.1.map (ab_V ad wr cr ρ)) sz) (ab_QC cy ad wr cr D vwCl nn_sh nn_T nn_C q.2.2.1.2.1.length ρ σ q.2.2.1.2.2.2.2 (ab_A ad nn_sh.length sz))
        (nx_XC cy ad wr cr D q.2.2.1.2.1.length ρ σ q.2.2.2 (ab_A ad nn_sh.length sz)) 1 6 (ab_A ad nn_sh.length sz)
/-- an end that a known frame meets, nothing on its stack -/
theorem nx_en {cy : Nat → ClassId} {ad wr cr : Nat → Nat} {D : va_G} {nL n0 : Nat} {ρ0 : Nat → Int} {σ0 : ab_SG} {A : Nat → Prop} {H0 : Heap} {X : ab_AS} {ρ : Nat → Int} {σ : ab_SG} {H : Heap} {locs : List Loc} {ls : Array Slot} (hG : ab_Gm cy ad wr cr D vwCl nn_sh nn_T nn_C nL n0 ρ0 σ0 A H0 X ρ σ H locs ls []) {o : ab_OU} (hen : ab_en nn_T n0 X o = true) :
    ∃ (ρ' : Nat → Int) (σ' : ab_SG), (∀ i, i < n0 → ρ' i = ρ0 i) ∧ n0 ≤ o.2.1.length ∧ ab_K nn_T nn_C σ0 o.2.1 o.2.2.1 o.2.2.2.1 o.2.2.2.2 ρ' σ' ∧ ab_okS ad wr cr o.2.1.length ρ' o.1 [] ∧ va_P D vwCl (ab_WD cy ad wr nn_sh σ') H := by
  obtain ⟨L, S, B, F, Dl, M⟩ := X
  obtain ⟨hK, hr0, hn0, hL, hS, hP, hSS⟩ := hG
  dsimp only at hK hr0 hn0 hL hS
  unfold ab_en at hen
  split at hen
  · rename_i B1 D1 hmat
    rw [Bool.and_eq_true] at hen
    obtain ⟨ρ1, m1, m2, m3⟩ := ab_mat_ok _ hK hmat
    obtain ⟨v1, v2⟩ := ab_vf_th m1.1 hen.1
    obtain ⟨vK, -, vS⟩ := ab_vf_ok (ad := ad) (wr := wr) (cr := cr) (nL := nL) (ls := ls) (L := []) hen.1 m1 ⟨⟨hL.1.1, hL.1.2.1, fun q hq => by cases hq⟩, fun q hq => by cases hq⟩ (ab_okS_ext hS m2 m3)
    obtain ⟨w1, w2⟩ := ab_rid_ok (ρ := ρ1) n0 0 _ hen.2
    refine ⟨_, σ, fun j hj => ?_, by rw [← v2]; exact w1, vK, vS, hP⟩
    rw [w2 j hj, Nat.zero_add, m3 j (Nat.lt_of_lt_of_le hj hn0), hr0 j hj]
  · cases hen
/-- a contract that returns or throws, out of a run of its body -/
theorem nx_holdW {l : Launch} {cy : Nat → ClassId} {ad wr cr : Nat → Nat} {D : va_G} {KI KJ : List (Nat × Int)} {PF : ab_PT} {PS : ab_PS} {PM : ab_PC2} {KS : ab_KS} {lev mn : Nat} {ct : ab_CN} {osX : List ab_OU} {mr : ab_MR} {dt : ab_DT}
    (htr : l.stackTraces = false) (hinj : nn_inj ad) (hmr : nn_MT[mn]? = some mr) (hdt : nn_DT[mn]? = some dt)
    (hpre : ((1 : Nat).ble ct.2.1.length && (!mr.2.2.2.2.2.1 || nn_rcB vwCl nn_sh mr.1.cls ct.1) && (ab_cat ct.1).ble mr.2.2.1 && nn_rkB mr.2.2.2.2.2.2 mr.2.2.2.1 && plainName mr.1.cls && decide (mr.1.cls = "NameNotes")) = true)
    (hKI : ∀ q ∈ KI, Jvm.Cond.constant "NameNotes" q.1 (Int32.ofInt q.2) ∈ nn_TT) (hKJ : ∀ q ∈ KJ, Jvm.Cond.constantLong "NameNotes" q.1 (Int64.ofInt q.2) ∈ nn_TT) (hPF : ∀ q ∈ PF, ab_fok vwCl nn_TT "NameNotes" q) (hPS : ∀ q ∈ PS, ab_psok nn_TT nn_kd "NameNotes" q) (hPM : ∀ q ∈ PM, ab_mlk nn_MT nn_TT nn_NW "NameNotes" q)
    (hKS : ∀ q ∈ KS, nn_H l cy ad wr cr D q)
    (body : ∀ (p : Program) (e : Env) (s : State) (m : MethodId) (below : List Frame) (meth : Method) (c : Code) (R : Room) (Q : State → Prop) (ρ : Nat → Int) (σ : ab_SG),
      ab_Ev p l s m (ct.1.map (ab_V ad wr cr ρ)).toArray meth c mr.2.1 mr.2.2.1 lev R cy ad wr cr D vwCl nn_sh nn_T nn_C "NameNotes" (ab_A ad nn_sh.length s.heap.size) s.heap (Jvm.Cond.code mr.1 mr.2.1 mr.2.2.1 mr.2.2.2.1 :: nn_TT) nn_TT nn_NW nn_MT KI KJ PF nn_kd PS PM KS 0 ct.2.1.length ρ 0 0 dt σ →
      ab_K nn_T nn_C σ ct.2.1 ct.2.2.1 ct.2.2.2.1 [] ρ σ → (∀ a ∈ ct.1, ab_sy ct.2.1.length a) → va_P D vwCl (ab_WD cy ad wr nn_sh σ) s.heap →
      (∀ (pc : Nat) (X : ab_AS) (ρ2 : Nat → Int) (σ2 : ab_SG) (H : Heap) (locs : List Loc) (ls : Array Slot) (st : List Value) (i : Instr) (len : Nat), decode mr.2.1 pc = .ok (i, len) → ab_rt nn_T ct.2.1.length ct.2.2.2.2 mr.2.2.2.2.2.2 i len X = true → ab_Gm cy ad wr cr D vwCl nn_sh nn_T nn_C mr.2.2.1 ct.2.1.length ρ σ (ab_A ad nn_sh.length s.heap.size) s.heap X ρ2 σ2 H locs ls st → W p l e R s m (ct.1.map (ab_V ad wr cr ρ)).toArray below meth c H locs 0 0 Q (F0 m pc ls st)) →
      (∀ (pc : Nat) (X : ab_AS) (ρ2 : Nat → Int) (σ2 : ab_SG) (H : Heap) (locs : List Loc) (ls : Array Slot) (st : List Value) (is : Nat) (tx : String) (k : Nat), osX.any (ab_en nn_T ct.2.1.length X) = true → X.2.1 = [] → ("NameNotes", is, tx, k) ∈ nn_kd.2.2.2 →
        decode mr.2.1 pc = .ok (.new 211, 3) → decode mr.2.1 (pc + 3) = .ok (.dup, 1) → ((decode mr.2.1 (pc + 4) = .ok (.ldc is, 2) ∧ decode mr.2.1 (pc + 6) = .ok (.invokespecial 215, 3) ∧ decode mr.2.1 (pc + 9) = .ok (.athrow, 1)) ∨ (decode mr.2.1 (pc + 4) = .ok (.ldc_w is, 3) ∧ decode mr.2.1 (pc + 7) = .ok (.invokespecial 215, 3) ∧ decode mr.2.1 (pc + 10) = .ok (.athrow, 1))) →
        ab_Gm cy ad wr cr D vwCl nn_sh nn_T nn_C mr.2.2.1 ct.2.1.length ρ σ (ab_A ad nn_sh.length s.heap.size) s.heap X ρ2 σ2 H locs ls st → W p l e R s m (ct.1.map (ab_V ad wr cr ρ)).toArray below meth c H locs 0 0 Q (F0 m pc ls st)) →
      W p l e R s m (ct.1.map (ab_V ad wr cr ρ)).toArray below meth c s.heap [] 0 0 Q (entryFrame m (ct.1.map (ab_V ad wr cr ρ)).toArray mr.2.2.1)) :
    nx_H l cy ad wr cr D (mn, lev, ct, osX) := by
  intro mr9 hmr9
  replace hmr9 : nn_MT[mn]? = some mr9 := hmr9
  rw [hmr] at hmr9
  cases hmr9
  rw [Bool.and_eq_true, Bool.and_eq_true, Bool.and_eq_true, Bool.and_eq_true, Bool.and_eq_true, Bool.or_eq_true, Bool.not_eq_true', decide_eq_true_eq] at hpre
  obtain ⟨⟨⟨⟨⟨h1, h2⟩, h3⟩, h4⟩, hy⟩, hown⟩ := hpre
  refine ⟨Nat.le_of_ble_eq_true h1, fun g => ?_, fun ρ σ sz hK hsy => ?_⟩
  · rcases h2 with h2 | h2
    · rw [g] at h2; cases h2
    · exact nn_rc_ok h2
  refine vx_ofW (cc := mr.2.1) (maxL := mr.2.2.1) (ret := mr.2.2.2.1) hy rfl ?_
  intro p e s m args below meth c s₁ B hml hex hv
  obtain ⟨rfl, hsz, hP, hKK, hN, hCB, hZ⟩ := hv
  have hts := atoms_spec (ws := Jvm.Cond.code mr.1 mr.2.1 mr.2.2.1 mr.2.2.2.1 :: nn_TT) B.pre
  have hown2 : s.vm.findClass "NameNotes" = some m.cls := by rw [← hown]; exact findClass_of_methodNamed B.named
  subst hsz
  have hA : ∀ k, k < nn_sh.length → ab_A ad nn_sh.length s.heap.size (ad k) := fun k hk => Or.inl ⟨k, hk, rfl⟩
  have hsub : ∀ w ∈ nn_TT, w ∈ (Jvm.Cond.code mr.1 mr.2.1 mr.2.2.1 mr.2.2.2.1 :: nn_TT) := fun w hw => List.mem_cons_of_mem _ hw
  have hww : ∀ w ∈ nx_wds, w.before (ct.1.map (ab_V ad wr cr ρ)).toArray s = true := nx_wds_of (fun w hw => hts _ (hsub _ hw)) hZ.2.2
  refine body p e s m below meth c (headSpec (Jvm.Cond.code mr.1 mr.2.1 mr.2.2.1 mr.2.2.2.1 :: nn_TT) (nx_room lev)).room _ ρ σ
    ⟨B.exec, B.bytes, hml, hown2, hts, hKK, hN, fun w hw => ⟨hsub w hw, nn_TT_good w hw⟩, nn_MT_code, hA, fun q hq => Or.inr hq, fun q hq => ab_mlk_mono (hPM q hq) hsub, hKS, ⟨Nat.le_add_right lev 10, Nat.le_add_right (40 * lev) 200⟩, fun q hq => hts _ (hsub _ (hKI q hq)), fun q hq => hts _ (hsub _ (hKJ q hq)), fun q hq => ab_fok_mono (hPF q hq) hsub, ab_WD_D hinj hA, hCB, rfl, fun q hq => ab_psok_mono (hPS q hq) hsub, ⟨Nat.zero_le _, Nat.zero_le _⟩, (fun q => by cases q), nn_DT_ok hmr hdt⟩
    hK hsy hP (fun pc X ρ2 σ2 H locs ls2 st i len hd hr hG => W.widen (k := 1) (n := 6) (by decide) (by decide) (vx_ret (ab_rt_ok B.exec B.bytes B.returns (nn_rk_ok h4) B.notSynchronized hr hd hG))) ?_
  intro pc X ρ2 σ2 H locs ls st is tx k hen hX htx d0 d3 d4 hG
  have hst : st = [] := by have := hG.2.2.2.2.1.1; rw [hX] at this; exact this
  subst hst
  obtain ⟨o, ho, hen⟩ := List.any_eq_true.mp hen
  have hSS := hG.2.2.2.2.2.2
  obtain ⟨ρ', σ', q1, q2, q3, q4, q5⟩ := nx_en hG hen
  have hx : ∀ t : State, s.vm.Alike t.vm → H.size ≤ t.heap.size → (∀ q : Nat, q < H.size → t.heap[q]? = H[q]?) → nx_XC cy ad wr cr D ct.2.1.length ρ σ osX (ab_A ad nn_sh.length s.heap.size) nx_N s t := by
    intro t _ hz hq
    refine ⟨rfl, ⟨o, ho, ρ', σ', q1, q2, q3, q4, q5.kept (fun k q hk => hq _ (vx_lt q5 hk))⟩, Nat.le_trans hSS.1 hz, fun q g1 g2 => ?_⟩
    rw [hq q (Nat.lt_of_lt_of_le g1 hSS.1)]
    exact hSS.2.1 q g1 g2
  have hsize : ls.size = c.maxLocals := hG.2.2.2.1.1.1.trans hml.symm
  have hwk : ∀ w ∈ (nx_atoms "NameNotes" 215).filter vx_no, w.before (ct.1.map (ab_V ad wr cr ρ)).toArray s = true := fun w hw => hww w (List.mem_cons_of_mem _ (List.mem_cons_of_mem _ hw))
  have hstr : vk_R "NameNotes" is tx (cr k) s := hCB.2.2.2.2 _ htx
  have f1 : 5 < (headSpec (Jvm.Cond.code mr.1 mr.2.1 mr.2.2.1 mr.2.2.2.1 :: nn_TT) (nx_room lev)).room.frames := by show 5 < lev + 10; omega
  have f2 : 82 ≤ (headSpec (Jvm.Cond.code mr.1 mr.2.1 mr.2.2.1 mr.2.2.2.1 :: nn_TT) (nx_room lev)).room.locals := by show 82 ≤ 40 * lev + 200; omega
  rcases d4 with ⟨d4, d6, d9⟩ | ⟨d4, d6, d9⟩
  · exact nx_throw B.exec B.bytes htr hown2 (hww _ List.mem_cons_self) (hww _ (List.mem_cons_of_mem _ List.mem_cons_self)) hstr hwk nx_wds_good hZ.1 hZ.2.1 hSS hsize d0 d3 d4 d6 d9 (fun x hx9 => absurd (hex x hx9) id) f1 f2 (Nat.le_refl _) (Nat.le_refl _) B.notSynchronized hx hSS.2.2 (Nat.le_refl _) (Nat.le_refl _)
  · exact nx_throwW B.exec B.bytes htr hown2 (hww _ List.mem_cons_self) (hww _ (List.mem_cons_of_mem _ List.mem_cons_self)) hstr hwk nx_wds_good hZ.1 hZ.2.1 hSS hsize d0 d3 d4 d6 d9 (fun x hx9 => absurd (hex x hx9) id) f1 f2 (Nat.le_refl _) (Nat.le_refl _) B.notSynchronized hx hSS.2.2 (Nat.le_refl _) (Nat.le_refl _)
end
section
/-! calls of methods that return or throw, and of the law's own helpers -/
section
variable {p : Program} {l : Launch} {e : Env} {R : Room} {s : State} {m : MethodId} {args : Array Value} {below : List Frame} {meth : Method} {c : Code} {H : Heap} {locs : List Loc} {cells slots : Nat} {Q : State → Prop} {cc : ByteArray} {pc : Nat} {ls : Array Slot} {st0 rest : List Value}
variable {ad wr cr : Nat → Nat} {cy : Nat → ClassId} {D : va_G} {A0 A1 : Nat → Prop} {H0 : Heap}
theorem nx_callQ {n0 : Nat} {ρ0 : Nat → Int} {σ0 : ab_SG} {os osX : List ab_OU} {a : Array Value} {free : Addr → Prop} (hr : vx_Run p l e R s m args below meth c H locs cells slots 1 6 (F0 m pc ls st0) rest (ab_QC cy ad wr cr D vwCl nn_sh nn_T nn_C n0 ρ0 σ0 os A1 a) (nx_XC cy ad wr cr D n0 ρ0 σ0 osX A1) free) (hS : va_S A0 H0 H locs) (hA : ∀ q, q < H.size → A1 q → A0 q) (hf : ∀ q, free q → A0 q)
    (kk : ∀ (rv : Option Value) (o : ab_OU) (H1 : Heap) (locs1 : List Loc), o ∈ os → ab_ps cy ad wr cr D vwCl nn_sh nn_T nn_C n0 ρ0 σ0 o rv H1 → va_S A0 H0 H1 locs1 → W p l e R s m args below meth c H1 locs1 (cells + 1) (slots + 6) Q (F0 m (pc + 3) ls (rv.toList ++ rest)))
    (kx : ∀ (o : ab_OU) (H1 : Heap) (locs1 : List Loc) (q9 : Addr) (ce : Cell), o ∈ osX → ab_ps cy ad wr cr D vwCl nn_sh nn_T nn_C n0 ρ0 σ0 o none H1 → va_S A0 H0 H1 locs1 → H1[q9]? = some ce → ce.vm = .none → s.vm.findClass nx_N = some ce.cls → vx_W p l e R s m args below meth c H1 locs1 (cells + 1) (slots + 6) Q (F0 m pc ls rest) q9) : W p l e R s m args below meth c H locs cells slots Q (F0 m pc ls st0) := by
  intro T9 hT X
  rcases hr T9 hT X with ⟨v, st₀, t, T', L, h0, X', hL, e1, e2, ⟨⟨rv, o, hv, ho, hps⟩, hF⟩, st⟩ | ⟨q, st₀, t, T', L, E, ce, h0, X', hL, e1, e2, ⟨hE, ⟨o, ho, hps⟩, hF⟩, hce, hcv, hcl, st⟩
  · cases hv
    obtain ⟨k1, k2, k3⟩ := vx_keep h0 e1 hS hA hf hL hF
    obtain ⟨t2, a1, b1⟩ := kk v o T'.heap (locs ++ L) ho (by rw [e1]; exact hps) k3 T' rfl X'
    exact ⟨t2, st t2 a1, b1⟩
  · obtain ⟨k1, k2, k3⟩ := vx_keep h0 e1 hS hA hf hL hF
    subst hE
    obtain ⟨t2, a1, b1⟩ := kx o T'.heap (locs ++ L) q ce ho (by rw [e1]; exact hps) k3 (by rw [e1]; exact hce) hcv hcl T' rfl X'
    exact ⟨t2, st.trans a1, b1⟩
end
/-- what a call's row gives of the frame: the callee's start, and each end as a frame -/
theorem nx_tr {mn0 lv0 : Nat} {ct : ab_CN} {osX : List ab_OU} {lev mn : Nat} {as rest : List ab_AV} {L : ab_LS} {B : ab_BD} {F : ab_FT} {Dl : ab_DL} {M : ab_ML} {ls9 lsX : List ab_AS} (htr : ab_tr1 nn_T (mn0, lv0, ct) lev mn as rest L B F Dl M = some ls9) (htx : ab_tr1 nn_T (mn0, lv0, (ct.1, ct.2.1, ct.2.2.1, ct.2.2.2.1, osX)) lev mn as rest L B F Dl M = some lsX)
    {cy : Nat → ClassId} {ad wr cr : Nat → Nat} {D : va_G} {nL n0 : Nat} {ρ0 : Nat → Int} {σ0 : ab_SG} {A : Nat → Prop} {H0 : Heap} {ρ : Nat → Int} {σ : ab_SG} {H : Heap} {locs : List Loc} {ls : Array Slot} {st : List Value} {S : List ab_AV} (hS0 : S = as.reverse ++ rest)
    (hG : ab_Gm cy ad wr cr D vwCl nn_sh nn_T nn_C nL n0 ρ0 σ0 A H0 (L, S, B, F, Dl, M) ρ σ H locs ls st) :
    ∃ (ρq : Nat → Int) (vr : List Value), ab_K nn_T nn_C σ ct.2.1 ct.2.2.1 ct.2.2.2.1 [] ρq σ ∧ (∀ a ∈ ct.1, ab_sy ct.2.1.length a) ∧ st = (ct.1.map (ab_V ad wr cr ρq)).reverse ++ vr ∧ (vr.map fun v => v.category).sum = ab_cat rest ∧ ct.1.length = as.length ∧
      (∀ (rv : Option Value) (o : ab_OU) (H1 : Heap) (locs1 : List Loc), o ∈ ct.2.2.2.2 → ab_ps cy ad wr cr D vwCl nn_sh nn_T nn_C ct.2.1.length ρq σ o rv H1 → va_S A H0 H1 locs1 →
        ∃ x ∈ ls9, ∃ (ρ2 : Nat → Int) (σ2 : ab_SG), (∀ i, i < B.length → ρ2 i = ρ i) ∧ ab_Gm cy ad wr cr D vwCl nn_sh nn_T nn_C nL n0 ρ0 σ0 A H0 x ρ2 σ2 H1 locs1 ls (rv.toList ++ vr)) ∧
      (∀ (rv : Option Value) (o : ab_OU) (H1 : Heap) (locs1 : List Loc), o ∈ osX → ab_ps cy ad wr cr D vwCl nn_sh nn_T nn_C ct.2.1.length ρq σ o rv H1 → va_S A H0 H1 locs1 →
        ∃ x ∈ lsX, ∃ (ρ2 : Nat → Int) (σ2 : ab_SG), (∀ i, i < B.length → ρ2 i = ρ i) ∧ ab_Gm cy ad wr cr D vwCl nn_sh nn_T nn_C nL n0 ρ0 σ0 A H0 x ρ2 σ2 H1 locs1 ls (rv.toList ++ vr)) := by
  obtain ⟨hK, hr0, hn0, hL, hS, hP, hSS⟩ := hG
  dsimp only at hK hr0 hn0 hL hS
  unfold ab_tr1 at htr htx
  obtain ⟨t1, htr⟩ := ab_co htr
  obtain ⟨t2, htx⟩ := ab_co htx
  dsimp only at htr htx
  split at htr
  · rename_i B1 D1 hmat
    rw [hmat] at htx
    dsimp only at htx
    obtain ⟨hvf, htr⟩ := ab_cs htr
    obtain ⟨hvf2, htx⟩ := ab_cs htx
    obtain ⟨ρ1, m1, m2, m3⟩ := ab_mat_ok _ hK hmat
    have hS1 := ab_okS_ext hS m2 m3
    have hSm : ∀ a ∈ as, ab_sy B1.length a := fun a ha => hS1.2 a (by rw [hS0]; exact List.mem_append_left _ (List.mem_reverse.mpr ha))
    have hrm : ∀ a ∈ rest, ab_sy B1.length a := fun a ha => hS1.2 a (by rw [hS0]; exact List.mem_append_right _ ha)
    have hst : st = (as.map (ab_V ad wr cr ρ1)).reverse ++ rest.map (ab_V ad wr cr ρ1) := by
      rw [hS1.1, hS0, List.map_append, List.map_reverse]
    obtain ⟨v1, v2⟩ := ab_vf_th m1.1 hvf
    obtain ⟨vK, -, vS⟩ := ab_vf_ok (ad := ad) (wr := wr) (cr := cr) (nL := nL) (ls := ls) (st := as.map (ab_V ad wr cr ρ1)) (L := []) hvf (ab_K_start m1) ⟨⟨hL.1.1, hL.1.2.1, fun q hq => by cases hq⟩, fun q hq => by cases hq⟩ ⟨rfl, hSm⟩
    have fin : ∀ (os : List ab_OU) (lsx : List ab_AS), (os.filterMap (fun o =>
          let r := ab_af (ab_gs 1 [] ct.1 ct.2.1 ct.2.2.2.1 [] as D1) ct.2.1.length o B1 F D1 M
          cond (ab_no r.2.1 || ab_nf r.2.1 r.2.2.1 || ab_ng r.2.1 r.2.2.1 (r.2.2.1.take o.2.2.1.length)) none (some (L, r.1 ++ rest, r.2.1, r.2.2.1, r.2.2.2.1, r.2.2.2.2)))) = lsx →
        ∀ (rv : Option Value) (o : ab_OU) (H1 : Heap) (locs1 : List Loc), o ∈ os → ab_ps cy ad wr cr D vwCl nn_sh nn_T nn_C ct.2.1.length (ab_thv (ab_gs 1 [] ct.1 ct.2.1 ct.2.2.2.1 [] as D1) ρ1) σ o rv H1 → va_S A H0 H1 locs1 →
        ∃ x ∈ lsx, ∃ (ρ2 : Nat → Int) (σ2 : ab_SG), (∀ i, i < B.length → ρ2 i = ρ i) ∧ ab_Gm cy ad wr cr D vwCl nn_sh nn_T nn_C nL n0 ρ0 σ0 A H0 x ρ2 σ2 H1 locs1 ls (rv.toList ++ rest.map (ab_V ad wr cr ρ1)) := by
      intro os lsx hlx rv o H1 locs1 ho hps hSS1
      obtain ⟨ρ', σ', q1, q2, q3, q4, q5⟩ := hps
      obtain ⟨ρ2, b1, b2, b3, b4⟩ := ab_af_ok (ad := ad) (wr := wr) (cr := cr) (o := o) m1 v1 v2 q1 q2 q3 q4
      have hag : ∀ i, i < B.length → ρ2 i = ρ i := fun i hi => (b3 i (Nat.lt_of_lt_of_le hi m2)).trans (m3 i hi)
      have hno : (ab_no (ab_af (ab_gs 1 [] ct.1 ct.2.1 ct.2.2.2.1 [] as D1) ct.2.1.length o B1 F D1 M).2.1 || ab_nf (ab_af (ab_gs 1 [] ct.1 ct.2.1 ct.2.2.2.1 [] as D1) ct.2.1.length o B1 F D1 M).2.1 (ab_af (ab_gs 1 [] ct.1 ct.2.1 ct.2.2.2.1 [] as D1) ct.2.1.length o B1 F D1 M).2.2.1 || ab_ng (ab_af (ab_gs 1 [] ct.1 ct.2.1 ct.2.2.2.1 [] as D1) ct.2.1.length o B1 F D1 M).2.1 (ab_af (ab_gs 1 [] ct.1 ct.2.1 ct.2.2.2.1 [] as D1) ct.2.1.length o B1 F D1 M).2.2.1 ((ab_af (ab_gs 1 [] ct.1 ct.2.1 ct.2.2.2.1 [] as D1) ct.2.1.length o B1 F D1 M).2.2.1.take o.2.2.1.length)) = false := by
        rw [ab_no_ok b1.1, ab_nf_ok b1.1 b1.2.1, ab_ng_ok b1.1 b1.2.1 (fun g hg => List.mem_of_mem_take hg)]
        rfl
      have hmem : (L, (ab_af (ab_gs 1 [] ct.1 ct.2.1 ct.2.2.2.1 [] as D1) ct.2.1.length o B1 F D1 M).1 ++ rest, (ab_af (ab_gs 1 [] ct.1 ct.2.1 ct.2.2.2.1 [] as D1) ct.2.1.length o B1 F D1 M).2.1, (ab_af (ab_gs 1 [] ct.1 ct.2.1 ct.2.2.2.1 [] as D1) ct.2.1.length o B1 F D1 M).2.2.1, (ab_af (ab_gs 1 [] ct.1 ct.2.1 ct.2.2.2.1 [] as D1) ct.2.1.length o B1 F D1 M).2.2.2.1, (ab_af (ab_gs 1 [] ct.1 ct.2.1 ct.2.2.2.1 [] as D1) ct.2.1.length o B1 F D1 M).2.2.2.2) ∈ lsx := by
        rw [← hlx]
        refine List.mem_filterMap.mpr ⟨o, ho, ?_⟩
        dsimp only
        rw [hno]
        rfl
      refine ⟨_, hmem, ρ2, σ', hag, b1, fun i hi => (hag i (Nat.lt_of_lt_of_le hi hn0)).trans (hr0 i hi), Nat.le_trans hn0 (Nat.le_trans m2 b2), ab_okL_ext hL (Nat.le_trans m2 b2) hag, ?_, q5, hSS1⟩
      refine ⟨?_, ?_⟩
      · rw [List.map_append, ← b4.1]
        congr 1
        exact List.map_congr_left (fun a ha => (ab_V_ext (hrm a ha) b3).symm)
      · intro a ha
        rcases List.mem_append.mp ha with ha | ha
        · exact b4.2 a ha
        · exact ab_sy_mono (hrm a ha) b2
    refine ⟨_, rest.map (ab_V ad wr cr ρ1), vK, vS.2, by rw [← vS.1]; exact hst, ?_, ?_, fin _ _ htr, fin _ _ htx⟩
    · have := ab_cat_ok (ad := ad) (wr := wr) (cr := cr) (ρ := ρ1) rest 0
      unfold ab_cat
      rw [this]
      omega
    · have := congrArg List.length vS.1
      rw [List.length_map, List.length_map] at this
      exact this.symm
  · cases htr
section
variable {p : Program} {l : Launch} {e : Env} {R : Room} {s : State} {m : MethodId} {args : Array Value} {below : List Frame} {meth : Method} {c : Code} {H : Heap} {locs : List Loc} {cells slots : Nat} {Q : State → Prop} {cc : ByteArray} {pc : Nat} {ls : Array Slot} {st : List Value}
variable {ad wr cr : Nat → Nat} {cy : Nat → ClassId} {nL n0 : Nat} {σ0 : ab_SG} {ρ0 : Nat → Int} {own : String} {D : va_G} {A : Nat → Prop} {H0 : Heap} {Ts : List Jvm.Cond}
set_option maxHeartbeats 4000000 in
/-- a call of a method of the world that returns or throws -/
theorem nx_cl (hcs : cells + 1 ≤ R.cells ∧ slots + 6 ≤ R.slots) (hx : p.tables.exec = Jvm.exec) (hb : c.code = cc) (hml : c.maxLocals = nL) (hown : s.vm.findClass own = some m.cls) (hts : ∀ w ∈ Ts, w.before args s = true) (hKK : va_K D vwCl (ab_tys cy) s) (hN : ab_okN nn_NW s) (hCB : ab_CB cy ad wr cr nn_kd A s) (hZ : nx_Z A s) (hH0 : H0 = s.heap) (hTT : ∀ w ∈ nn_TT, w ∈ Ts)
    (hA : ∀ k, k < nn_sh.length → A (ad k)) (hA2 : ∀ q, H0.size ≤ q → A q) {q : nx_Q4} {x9 : Nat} {mr : ab_MR} (hmr : nn_MT[q.1]? = some mr) (hob : mr.2.2.2.2.2.1 = true) (hlk : ab_mlk nn_MT Ts nn_NW own (x9, 0, q.1)) (hplain : Jvm.Cond.methodLink own x9 mr.1 ∈ Ts) (hq : nx_H l cy ad wr cr D q) (hR : q.2.1 + 11 ≤ R.frames ∧ 40 * q.2.1 + 300 ≤ R.locals)
    {L : ab_LS} {S as rest : List ab_AV} {B : ab_BD} {F : ab_FT} {Dl : ab_DL} {M : ab_ML} (hS0 : S = as.reverse ++ rest) (hlen : as.length = mr.2.2.2.2.1 + 1) (hc8 : ab_cat rest ≤ 8) (hl21 : mr.2.2.1 ≤ 21)
    {ls9 lsX : List ab_AS} (htr : ab_tr1 nn_T (q.1, q.2.1, q.2.2.1) (q.2.1 + 1) q.1 as rest L B F Dl M = some ls9) (htx : ab_tr1 nn_T (q.1, q.2.1, (q.2.2.1.1, q.2.2.1.2.1, q.2.2.1.2.2.1, q.2.2.1.2.2.2.1, q.2.2.2)) (q.2.1 + 1) q.1 as rest L B F Dl M = some lsX)
    (hdg : decode cc pc = .ok (.invokevirtual x9, 3)) {ρ : Nat → Int} {σ : ab_SG} (hG : ab_Gm cy ad wr cr D vwCl nn_sh nn_T nn_C nL n0 ρ0 σ0 A H0 (L, S, B, F, Dl, M) ρ σ H locs ls st)
    (kk : ∀ x ∈ ls9, ∀ (ρ2 : Nat → Int) (σ2 : ab_SG) (H1 : Heap) (locs1 : List Loc) (st1 : List Value), (∀ i, i < B.length → ρ2 i = ρ i) → ab_Gm cy ad wr cr D vwCl nn_sh nn_T nn_C nL n0 ρ0 σ0 A H0 x ρ2 σ2 H1 locs1 ls st1 → W p l e R s m args below meth c H1 locs1 (cells + 1) (slots + 6) Q (F0 m (pc + 3) ls st1))
    (kx : ∀ x ∈ lsX, ∀ (ρ2 : Nat → Int) (σ2 : ab_SG) (H1 : Heap) (locs1 : List Loc) (st1 : List Value) (q9 : Addr) (ce : Cell), (∀ i, i < B.length → ρ2 i = ρ i) → ab_Gm cy ad wr cr D vwCl nn_sh nn_T nn_C nL n0 ρ0 σ0 A H0 x ρ2 σ2 H1 locs1 ls st1 → H1[q9]? = some ce → ce.vm = .none → s.vm.findClass nx_N = some ce.cls → vx_W p l e R s m args below meth c H1 locs1 (cells + 1) (slots + 6) Q (F0 m pc ls st1) q9) :
    W p l e R s m args below meth c H locs cells slots Q (F0 m pc ls st) := by
  obtain ⟨c1, c2, c3, c4, c5, -, -⟩ := hlk mr hmr
  obtain ⟨d1, d2⟩ := c5 hob
  obtain ⟨e0, e1, e2⟩ := hq mr hmr
  obtain ⟨qn, qv, qc, qx⟩ := q
  obtain ⟨ρq, vr, vK, vsy, vst, vcat, vlen, vend, xend⟩ := nx_tr htr htx hS0 hG
  have hP : va_P D vwCl (ab_WD cy ad wr nn_sh σ) H := hG.2.2.2.2.2.1
  have hSS : va_S A H0 H locs := hG.2.2.2.2.2.2
  have hM := e2 ρq σ H.size vK vsy
  obtain ⟨k9, z9, as9, ci9, fs9, T9, N9, r1, r2, r3⟩ := e1 hob
  replace r1 : qc.1 = (2, k9, z9) :: as9 := r1
  have has : qc.1.map (ab_V ad wr cr ρq) = .ref (ad k9) :: as9.map (ab_V ad wr cr ρq) := by rw [r1]; rfl
  have hn9 : as9.length = mr.2.2.2.2.1 := by
    have h1 : qc.1.length = as9.length + 1 := by rw [r1]; rfl
    have h2 : qc.1.length = as.length := vlen
    omega
  replace hM : vx_Met l mr.1 (Jvm.Cond.code mr.1 mr.2.1 mr.2.2.1 mr.2.2.2.1 :: nn_TT) (nx_room qv) (nx_PC cy ad wr cr D σ (qc.1.map (ab_V ad wr cr ρq)) H.size) (ab_QC cy ad wr cr D vwCl nn_sh nn_T nn_C qc.2.1.length ρq σ qc.2.2.2.2 (ab_A ad nn_sh.length H.size)) (nx_XC cy ad wr cr D qc.2.1.length ρq σ qx (ab_A ad nn_sh.length H.size)) 1 6 (ab_A ad nn_sh.length H.size) := hM
  rw [has] at hM
  have hst : st = (as9.map (ab_V ad wr cr ρq)).reverse ++ .ref (ad k9) :: vr := by
    have h9 : st = (qc.1.map (ab_V ad wr cr ρq)).reverse ++ vr := vst
    rw [h9, has, List.reverse_cons, List.append_assoc]
    rfl
  have hws : ∀ w ∈ (Jvm.Cond.code mr.1 mr.2.1 mr.2.2.1 mr.2.2.2.1 :: nn_TT), ∀ (a' : Array Value) (U : State), s.WarmedH U.vm → w.before a' U = true := by
    intro w hw a' U hW
    rcases List.mem_cons.mp hw with rfl | hw
    · exact word_at hW (good_of_word (nn_MT_code mr (List.mem_of_getElem? hmr))) (hts _ c1)
    · exact word_at hW (good_of_word (nn_TT_good w hw)) (hts _ (hTT w hw))
  have hfree : ∀ q, ab_A ad nn_sh.length H.size q → A q := by
    rintro q (⟨k, hk, rfl⟩ | hk)
    · exact hA k hk
    · exact hA2 q (Nat.le_trans hSS.1 hk)
  have hkeep : ∀ U : State, U.heap = H → ∀ a : Nat, a < s.heap.size → ¬ A a → U.heap[a]? = s.heap[a]? := fun U hU a ha hna => by rw [hU, hSS.2.1 a (by rw [hH0]; exact ha) hna, hH0]
  have hpre : ∀ U : State, U.heap = H → s.WarmedH U.vm → nx_PC cy ad wr cr D σ (.ref (ad k9) :: as9.map (ab_V ad wr cr ρq)) H.size (.ref (ad k9) :: as9.map (ab_V ad wr cr ρq)).toArray U := fun U hU hW =>
    ⟨rfl, by rw [hU], by rw [hU]; exact hP, va_K.moved hW.alike hKK, ab_okN_moved hW hN, ab_CB_go hCB hW (hkeep U hU) hfree, nx_Z_go hZ hW (hkeep U hU) hfree⟩
  have hsig : ∀ sig, parseMethodDescriptor mr.1.desc = some sig → mr.2.2.2.2.1 = sig.parameters.length := fun sig hsg => by
    rw [hsg] at c4
    exact (Option.some.inj c4).symm
  have hfr : (nx_room qv).frames + 1 ≤ R.frames := by
    have := hR.1
    show qv + 10 + 1 ≤ _
    replace this : qv + 11 ≤ R.frames := this
    omega
  have hlo : 8 + (mr.2.2.1 + 11) + (nx_room qv).locals ≤ R.locals := by
    have := hR.2
    show 8 + (mr.2.2.1 + 11) + (40 * qv + 200) ≤ _
    replace this : 40 * qv + 300 ≤ R.locals := this
    omega
  have hA3 : ∀ q, q < H.size → ab_A ad nn_sh.length H.size q → A q := by
    rintro q hq (⟨k, hk, rfl⟩ | hk)
    · exact hA k hk
    · exact absurd hq (Nat.not_lt.mpr hk)
  have hroom : 2 * (F0 m pc ls st).monitorRoom + (vr.map fun v => v.category).sum ≤ 8 := lv_room (rest := st) (by rw [vcat]; exact hc8)
  have hrecv := va_recv hKK hP r3 (ab_cell_f (σ := σ) (cy := cy) (ad := ad) (wr := wr) r2)
  have hrun := vx_runV (meth := meth) (below := below) (e := e) (As := as9.map (ab_V ad wr cr ρq)) (rest := vr) (cells := cells) (slots := slots) (locs := locs) ⟨hx, hb, hml, hown, hts⟩ hM ⟨⟨rfl, rfl, hfr, hlo, hws, List.mem_cons_self, hts _ c1, hts _ c2, c3, hsig, hts _ hplain⟩, hts _ d1, hts _ d2⟩ ⟨nx_PC_blind, hrecv, hpre⟩ (g := F0 m pc ls st) rfl (by rw [List.length_map]; exact hn9) hG.2.2.2.1.1.1 hst hroom hdg hcs
  refine nx_callQ hrun hSS hA3 hfree (fun rv o H1 locs1 ho hps hSS1 => ?_) (fun o H1 locs1 q9 ce ho hps hSS1 h1 h2 h3 => ?_)
  · obtain ⟨x, hx9, ρ2, σ2, g1, g2⟩ := vend rv o H1 locs1 ho hps hSS1
    exact kk x hx9 ρ2 σ2 H1 locs1 _ g1 g2
  · obtain ⟨x, hx9, ρ2, σ2, g1, g2⟩ := xend none o H1 locs1 ho hps hSS1
    exact kx x hx9 ρ2 σ2 H1 locs1 _ q9 ce g1 g2 h1 h2 h3
end
end
section
/-! two contracts of one call together: what the ranges tell of it, and what it does -/
theorem db_both {l : Launch} {y : MethodName} {ws : List Jvm.Cond} {rm : Room} {Pc : Array Value → State → Prop} {Q1 Q2 : Array Value → State → Outcome → State → Prop} {mc ms : Nat} {free : Addr → Prop}
    (h1 : Met l y ws rm Pc Q1 mc ms free) (h2 : Met l y ws rm Pc Q2 mc ms free) : Met l y ws rm Pc (fun a s o t => Q1 a s o t ∧ Q2 a s o t) mc ms free := by
  intro p e hadm hfc hfk s m args below hfr happ hP hK
  obtain ⟨n1, o1, w1, r1, e1, q1, L1⟩ := h1 p e hadm hfc hfk s m args below hfr happ hP hK
  obtain ⟨n2, o2, w2, r2, e2, q2, -⟩ := h2 p e hadm hfc hfk s m args below hfr happ hP hK
  have hn : n1 = n2 := by
    rcases Nat.lt_trichotomy n1 n2 with h | h | h
    · exact absurd (w2 n1 h) (Ended.not_within e1)
    · exact h
    · exact absurd (w1 n2 h) (Ended.not_within e2)
  subst hn
  have ho := Ended.outcome_unique e1 e2
  subst ho
  exact ⟨n1, o1, w1, r1, e1, ⟨q1, q2⟩, L1⟩
theorem db_pre {l : Launch} {y : MethodName} {ws : List Jvm.Cond} {rm : Room} {Pc Pc' : Array Value → State → Prop} {Q1 : Array Value → State → Outcome → State → Prop} {mc ms : Nat} {free : Addr → Prop}
    (hp : ∀ a s, Pc' a s → Pc a s) (h : Met l y ws rm Pc Q1 mc ms free) : Met l y ws rm Pc' Q1 mc ms free := fun p e h1 h2 h3 s m args below hfr happ hP hK => h p e h1 h2 h3 s m args below hfr happ (hp _ _ hP) hK
theorem db_PC {cy : Nat → ClassId} {ad wr cr : Nat → Nat} {D : va_G} {cl : List vw_C} {sh : List ab_SP} {NW : ab_NW} {kd : ab_KD} {kv : Nat → Nat → Int} {wc : Nat → Int} {σ : ab_SG} {av : List Value} {sz : Nat} {a : Array Value} {U : State} (h : fw_PC cy ad wr cr D cl sh NW kd kv wc σ av sz a U) : ab_PC cy ad wr cr D cl sh NW kd σ av sz a U := by
  obtain ⟨h1, h2, h3, h4, h5, h6⟩ := h
  exact ⟨h1, h2, h3, h4, h5, h6.1⟩
/-- a value by its number alone -/
def fw_of (ρ : Nat → Int) (a : ab_AV) : ab_AV := match a.1 with
  | 0 => (0, 0, ρ a.2.1 + a.2.2)
  | 1 => (1, 0, ρ a.2.1 + a.2.2)
  | 2 => (2, a.2.1, 0)
  | 3 => (3, 0, 0)
  | 4 => (4, 0, ρ a.2.1 + a.2.2)
  | n + 5 => (n + 5, a.2.1, 0)
theorem fw_of_V {ad wr cr : Nat → Nat} {ρ : Nat → Int} (a : ab_AV) : ab_V ad wr cr fw_z (fw_of ρ a) = ab_V ad wr cr ρ a := by
  obtain ⟨t, s, c⟩ := a
  match t with
  | 0 => show Value.int (Int32.ofInt (0 + (ρ s + c))) = Value.int (Int32.ofInt (ρ s + c)); rw [Int.zero_add]
  | 1 => show Value.long (Int64.ofInt (0 + (ρ s + c))) = Value.long (Int64.ofInt (ρ s + c)); rw [Int.zero_add]
  | 2 => rfl
  | 3 => rfl
  | 4 => show ab_wv wr (0 + (ρ s + c)) = ab_wv wr (ρ s + c); rw [Int.zero_add]
  | n + 5 => rfl
set_option maxRecDepth 100000 in
theorem db_met {l : Launch} {cy : Nat → ClassId} {ad wr cr : Nat → Nat} {D : va_G} {q : Nat × Nat × ab_CN} {mr : ab_MR} (hmr : nn_MT[q.1]? = some mr) (hq : nn_H l cy ad wr cr D q) {lv lev : Nat} {sp : fw_SP} (hf : fw_H l cy ad wr cr D q.1 lv sp) (h1 : q.2.1 ≤ lev) (h2 : lv ≤ lev)
    {ρ : Nat → Int} {σ : ab_SG} {sz : Nat} (hK : ab_K nn_T nn_C σ q.2.2.2.1 q.2.2.2.2.1 q.2.2.2.2.2.1 [] ρ σ) (hsy : ∀ a ∈ q.2.2.1, ab_sy q.2.2.2.1.length a) {as' : List ab_AV} (has : as'.map (ab_V ad wr cr fw_z) = q.2.2.1.map (ab_V ad wr cr ρ)) {K : fw_KR} (hsp : sp as' σ K) :
    Met l mr.1 (Jvm.Cond.code mr.1 mr.2.1 mr.2.2.1 mr.2.2.2.1 :: nn_TT) (ab_room lev) (fw_PC cy ad wr cr D vwCl nn_sh nn_NW nn_kd fw_kv fw_wc σ (q.2.2.1.map (ab_V ad wr cr ρ)) sz)
      (fun a st o t => ab_QC cy ad wr cr D vwCl nn_sh nn_T nn_C q.2.2.2.1.length ρ σ q.2.2.2.2.2.2 (ab_A ad nn_sh.length sz) a st o t ∧ fw_QC cy ad wr cr D vwCl nn_sh K (ab_A ad nn_sh.length sz) a st o t) 0 0 (ab_A ad nn_sh.length sz) := by
  obtain ⟨-, -, e2⟩ := hq mr hmr
  have hA0 := e2 ρ σ sz hK hsy
  have hA := nn_met_room (rm := ab_room q.2.1) (rm' := ab_room lev) h1 (Nat.mul_le_mul_left 40 h1) (Nat.le_refl _) (Nat.le_refl _) (fun _ _ _ _ h => h) hA0
  have hB := hf mr hmr as' σ sz K hsp
  rw [has] at hB
  have hB := nn_met_room (rm := ab_room lv) (rm' := ab_room lev) h2 (Nat.mul_le_mul_left 40 h2) (Nat.le_refl _) (Nat.le_refl _) (fun _ _ _ _ h => h) hB
  exact db_both (db_pre (fun _ _ h => db_PC h) hA) hB
section
variable {p : Program} {l : Launch} {e : Env} {R : Room} {s : State} {m : MethodId} {args : Array Value} {below : List Frame} {meth : Method} {c : Code} {H : Heap} {locs : List Loc} {cells slots : Nat} {Q : State → Prop} {cc : ByteArray} {pc : Nat} {ls : Array Slot} {st : List Value}
variable {ad wr cr : Nat → Nat} {cy : Nat → ClassId} {nL n0 : Nat} {σ0 : ab_SG} {ρ0 : Nat → Int} {own : String} {D : va_G} {A : Nat → Prop} {H0 : Heap} {Ts : List Jvm.Cond}
set_option maxHeartbeats 4000000 in
/-- a call of which both is known -/
theorem db_cl (hcs : cells ≤ R.cells ∧ slots ≤ R.slots) (hx : p.tables.exec = Jvm.exec) (hb : c.code = cc) (hml : c.maxLocals = nL) (hown : s.vm.findClass own = some m.cls) (hts : ∀ w ∈ Ts, w.before args s = true) (hKK : va_K D vwCl (ab_tys cy) s) (hN : ab_okN nn_NW s) (hCB : fw_CB cy ad wr cr nn_kd fw_kv fw_wc A s) (hH0 : H0 = s.heap) (hTT : ∀ w ∈ nn_TT, w ∈ Ts)
    (hA : ∀ k, k < nn_sh.length → A (ad k)) (hA2 : ∀ q, H0.size ≤ q → A q) {q : Nat × Nat × ab_CN} {x9 : Nat} {mr : ab_MR} (hmr : nn_MT[q.1]? = some mr) (hob : mr.2.2.2.2.2.1 = true) (hlk : ab_mlk nn_MT Ts nn_NW own (x9, 0, q.1)) (hplain : Jvm.Cond.methodLink own x9 mr.1 ∈ Ts) (hq : nn_H l cy ad wr cr D q)
    {lv lev : Nat} {sp : fw_SP} (hf : fw_H l cy ad wr cr D q.1 lv sp) (hl1 : q.2.1 ≤ lev) (hl2 : lv ≤ lev) (hR : lev + 1 ≤ R.frames ∧ 40 * lev + 40 ≤ R.locals)
    {L : ab_LS} {S as rest : List ab_AV} {B : ab_BD} {F : ab_FT} {Dl : ab_DL} {M : ab_ML} (hS0 : S = as.reverse ++ rest) (hlen : as.length = mr.2.2.2.2.1 + 1) (hc8 : ab_cat rest ≤ 8) (hl21 : mr.2.2.1 ≤ 21)
    {ls9 : List ab_AS} (htr : ab_tr1 nn_T (q.1, q.2.1, q.2.2) (q.2.1 + 1) q.1 as rest L B F Dl M = some ls9)
    (hdg : decode cc pc = .ok (.invokevirtual x9, 3)) {ρ : Nat → Int} {σ : ab_SG} (hG : ab_Gm cy ad wr cr D vwCl nn_sh nn_T nn_C nL n0 ρ0 σ0 A H0 (L, S, B, F, Dl, M) ρ σ H locs ls st) {K : fw_KR} (hsp : sp (as.map (fw_of ρ)) σ K)
    (kk : ∀ x ∈ ls9, ∀ (ρ2 : Nat → Int) (σ2 σf : ab_SG) (rv : Option ab_AV) (H1 : Heap) (locs1 : List Loc) (st1 vr : List Value), (∀ i, i < B.length → ρ2 i = ρ i) → ab_Gm cy ad wr cr D vwCl nn_sh nn_T nn_C nL n0 ρ0 σ0 A H0 x ρ2 σ2 H1 locs1 ls st1 → K rv σf → va_P D vwCl (ab_WD cy ad wr nn_sh σf) H1 → st1 = (rv.map (ab_V ad wr cr fw_z)).toList ++ vr → W p l e R s m args below meth c H1 locs1 cells slots Q (F0 m (pc + 3) ls st1)) :
    W p l e R s m args below meth c H locs cells slots Q (F0 m pc ls st) := by
  obtain ⟨c1, c2, c3, c4, c5, -, -⟩ := hlk mr hmr
  obtain ⟨d1, d2⟩ := c5 hob
  obtain ⟨e0, e1, -⟩ := hq mr hmr
  obtain ⟨qn, qv, qc⟩ := q
  obtain ⟨ρq, vr, vK, vsy, vst, vcat, vlen, vend, -⟩ := nx_tr (osX := qc.2.2.2.2) htr htr hS0 hG
  have hP : va_P D vwCl (ab_WD cy ad wr nn_sh σ) H := hG.2.2.2.2.2.1
  have hSS : va_S A H0 H locs := hG.2.2.2.2.2.2
  have has : (as.map (fw_of ρ)).map (ab_V ad wr cr fw_z) = qc.1.map (ab_V ad wr cr ρq) := by
    have h1 : st = S.map (ab_V ad wr cr ρ) := hG.2.2.2.2.1.1
    rw [hS0, List.map_append, List.map_reverse] at h1
    have h2 : (as.map (ab_V ad wr cr ρ)).reverse ++ rest.map (ab_V ad wr cr ρ) = (qc.1.map (ab_V ad wr cr ρq)).reverse ++ vr := h1.symm.trans vst
    have h3 := (List.append_inj h2 (by rw [List.length_reverse, List.length_map, List.length_reverse, List.length_map]; exact vlen.symm)).1
    have h4 := List.reverse_inj.mp h3
    rw [List.map_map, ← h4]
    exact List.map_congr_left (fun a _ => fw_of_V a)
  have hM := db_met (q := (qn, qv, qc)) hmr hq hf hl1 hl2 (sz := H.size) vK vsy has hsp
  obtain ⟨k9, z9, as9, ci9, fs9, T9, N9, r1, r2, r3⟩ := e1 hob
  replace r1 : qc.1 = (2, k9, z9) :: as9 := r1
  have has : qc.1.map (ab_V ad wr cr ρq) = .ref (ad k9) :: as9.map (ab_V ad wr cr ρq) := by rw [r1]; rfl
  have hn9 : as9.length = mr.2.2.2.2.1 := by
    have h1 : qc.1.length = as9.length + 1 := by rw [r1]; rfl
    have h2 : qc.1.length = as.length := vlen
    omega
  replace hM : Met l mr.1 (Jvm.Cond.code mr.1 mr.2.1 mr.2.2.1 mr.2.2.2.1 :: nn_TT) (ab_room lev) (fw_PC cy ad wr cr D vwCl nn_sh nn_NW nn_kd fw_kv fw_wc σ (qc.1.map (ab_V ad wr cr ρq)) H.size) (fun a st o t => ab_QC cy ad wr cr D vwCl nn_sh nn_T nn_C qc.2.1.length ρq σ qc.2.2.2.2 (ab_A ad nn_sh.length H.size) a st o t ∧ fw_QC cy ad wr cr D vwCl nn_sh K (ab_A ad nn_sh.length H.size) a st o t) 0 0 (ab_A ad nn_sh.length H.size) := hM
  rw [has] at hM
  have hst : st = (as9.map (ab_V ad wr cr ρq)).reverse ++ .ref (ad k9) :: vr := by
    have h9 : st = (qc.1.map (ab_V ad wr cr ρq)).reverse ++ vr := vst
    rw [h9, has, List.reverse_cons, List.append_assoc]
    rfl
  have hws : ∀ w ∈ (Jvm.Cond.code mr.1 mr.2.1 mr.2.2.1 mr.2.2.2.1 :: nn_TT), ∀ (a' : Array Value) (U : State), s.WarmedH U.vm → w.before a' U = true := by
    intro w hw a' U hW
    rcases List.mem_cons.mp hw with rfl | hw
    · exact word_at hW (good_of_word (nn_MT_code mr (List.mem_of_getElem? hmr))) (hts _ c1)
    · exact word_at hW (good_of_word (nn_TT_good w hw)) (hts _ (hTT w hw))
  have hfree : ∀ q, ab_A ad nn_sh.length H.size q → A q := by
    rintro q (⟨k, hk, rfl⟩ | hk)
    · exact hA k hk
    · exact hA2 q (Nat.le_trans hSS.1 hk)
  have hkeep : ∀ U : State, U.heap = H → ∀ a : Nat, a < s.heap.size → ¬ A a → U.heap[a]? = s.heap[a]? := fun U hU a ha hna => by rw [hU, hSS.2.1 a (by rw [hH0]; exact ha) hna, hH0]
  have hpre : ∀ U : State, U.heap = H → s.WarmedH U.vm → fw_PC cy ad wr cr D vwCl nn_sh nn_NW nn_kd fw_kv fw_wc σ (.ref (ad k9) :: as9.map (ab_V ad wr cr ρq)) H.size (.ref (ad k9) :: as9.map (ab_V ad wr cr ρq)).toArray U := fun U hU hW =>
    ⟨rfl, by rw [hU], by rw [hU]; exact hP, va_K.moved hW.alike hKK, ab_okN_moved hW hN, fw_CB_go hCB hW (hkeep U hU) hfree⟩
  have hsig : ∀ sig, parseMethodDescriptor mr.1.desc = some sig → mr.2.2.2.2.1 = sig.parameters.length := fun sig hsg => by
    rw [hsg] at c4
    exact (Option.some.inj c4).symm
  have hfr : (ab_room lev).frames + 1 ≤ R.frames := hR.1
  have hlo : 8 + (mr.2.2.1 + 11) + (ab_room lev).locals ≤ R.locals := by
    have := hR.2
    show 8 + (mr.2.2.1 + 11) + 40 * lev ≤ _
    omega
  have hA3 : ∀ q, q < H.size → ab_A ad nn_sh.length H.size q → A q := by
    rintro q hq (⟨k, hk, rfl⟩ | hk)
    · exact hA k hk
    · exact absurd hq (Nat.not_lt.mpr hk)
  have hroom : 2 * (F0 m pc ls st).monitorRoom + (vr.map fun v => v.category).sum ≤ 8 := lv_room (rest := st) (by rw [vcat]; exact hc8)
  have hrecv := va_recv hKK hP r3 (ab_cell_f (σ := σ) (cy := cy) (ad := ad) (wr := wr) r2)
  have hcs0 : cells + 0 ≤ R.cells ∧ slots + 0 ≤ R.slots := hcs
  have hrun := va_runV (meth := meth) (below := below) (e := e) (As := as9.map (ab_V ad wr cr ρq)) (rest := vr) (cells := cells) (slots := slots) (locs := locs) ⟨hx, hb, hml, hown, hts⟩ hM ⟨⟨rfl, rfl, hfr, hlo, hws, List.mem_cons_self, hts _ c1, hts _ c2, c3, hsig, hts _ hplain⟩, hts _ d1, hts _ d2⟩ ⟨fw_PC_blind, hrecv, hpre⟩ (g := F0 m pc ls st) rfl (by rw [List.length_map]; exact hn9) hG.2.2.2.1.1.1 hst hroom hdg hcs0
  intro T9 hT X
  obtain ⟨v, st₀, t, T', L9, h0, X', hL, e1, e2, ⟨⟨⟨rv, o, hv, ho, hps⟩, hF⟩, ⟨rv2, σf, hv2, hK2, hP2⟩, -⟩, stp⟩ := hrun T9 hT X
  cases hv
  obtain ⟨k1, k2, k3⟩ := vx_keep h0 e1 hSS hA3 hfree hL hF
  obtain ⟨x, hx9, ρ2, σ2, g1, g2⟩ := vend v o T'.heap (locs ++ L9) ho (by rw [e1]; exact hps) k3
  have hv3 : v = rv2.map (ab_V ad wr cr fw_z) := by
    injection hv2
  obtain ⟨t2, a1, b1⟩ := kk x hx9 ρ2 σ2 σf rv2 T'.heap (locs ++ L9) _ vr g1 g2 hK2 (by rw [e1]; exact hP2) (by rw [hv3]) T' rfl X'
  exact ⟨t2, stp t2 a1, b1⟩
end
/-! one heap tells one number -/
section
variable {cy : Nat → ClassId} {ad wr : Nat → Nat} {D : va_G} {σ σ' : ab_SG} {H : Heap}
theorem wd_fld (h : va_P D vwCl (ab_WD cy ad wr nn_sh σ) H) (h' : va_P D vwCl (ab_WD cy ad wr nn_sh σ') H) {k j ci : Nat} {fs : List (Nat × Nat)} {f : Nat × Nat} {C : String} {T9 : u_T} {N9 : Nat} (hk : nn_sh[k]? = some (.inl (ci, fs))) (hj : fs[j]? = some f) (hc : vwCl[ci]? = some (C, T9, N9)) (hN : j < N9) : ab_fv ad wr f (σ k j) = ab_fv ad wr f (σ' k j) := by
  have g := h k _ (ab_WD_get hk)
  have g' := h' k _ (ab_WD_get hk)
  obtain ⟨r, r1, cell, c1, -, -, c4⟩ := g
  obtain ⟨r', r1', cell', c1', -, -, c4'⟩ := g'
  have er : r = (C, T9, N9) := Option.some.inj (r1.symm.trans hc)
  have er' : r' = (C, T9, N9) := Option.some.inj (r1'.symm.trans hc)
  subst er
  subst er'
  have ec : cell = cell' := Option.some.inj (c1.symm.trans c1')
  subst ec
  have q := Option.some.inj ((c4 j hN).symm.trans (c4' j hN))
  have e1 : vp_V (fs.mapIdx (fun i f => ab_fv ad wr f (σ k i))) j = ab_fv ad wr f (σ k j) := by
    unfold vp_V
    rw [List.getD_eq_getElem?_getD, ab_fs_get hj]
    rfl
  have e2 : vp_V (fs.mapIdx (fun i f => ab_fv ad wr f (σ' k i))) j = ab_fv ad wr f (σ' k j) := by
    unfold vp_V
    rw [List.getD_eq_getElem?_getD, ab_fs_get hj]
    rfl
  exact e1.symm.trans (q.trans e2)
theorem wd_int (h : va_P D vwCl (ab_WD cy ad wr nn_sh σ) H) (h' : va_P D vwCl (ab_WD cy ad wr nn_sh σ') H) {k j ci n : Nat} {fs : List (Nat × Nat)} {C : String} {T9 : u_T} {N9 : Nat} (hk : nn_sh[k]? = some (.inl (ci, fs))) (hj : fs[j]? = some (0, n)) (hc : vwCl[ci]? = some (C, T9, N9)) (hN : j < N9) : fw_c (σ k j) = fw_c (σ' k j) := by
  have q := wd_fld h h' hk hj hc hN
  have q : Value.int (Int32.ofInt (σ k j)) = Value.int (Int32.ofInt (σ' k j)) := q
  injection q with q
  unfold fw_c
  rw [q]
theorem wd_arr (h : va_P D vwCl (ab_WD cy ad wr nn_sh σ) H) (h' : va_P D vwCl (ab_WD cy ad wr nn_sh σ') H) {k j t n : Nat} (hk : nn_sh[k]? = some (.inr (t, n))) (ht : t ≠ 1) (hj : j < n) : fw_c (σ k j) = fw_c (σ' k j) := by
  have g := h k _ (ab_WD_get hk)
  have g' := h' k _ (ab_WD_get hk)
  have er : ∀ row : Nat → Int, ab_ar t n row = (n, .inl (fun j => Int32.ofInt (row j))) := fun row => by
    unfold ab_ar
    split
    · exact absurd rfl ht
    · rfl
  replace g : H[ad k]? = some (vp_cell (cy t) (ab_ar t n (σ k))) := g
  replace g' : H[ad k]? = some (vp_cell (cy t) (ab_ar t n (σ' k))) := g'
  rw [er] at g g'
  have q := Option.some.inj (g.symm.trans g')
  have q2 : (arrV (cy t) n (fun j => Value.int (Int32.ofInt (σ k j)))).slots = (arrV (cy t) n (fun j => Value.int (Int32.ofInt (σ' k j)))).slots := congrArg Cell.slots q
  have q3 := congrArg (fun a => a[j]?) q2
  have e : ∀ f : Nat → Value, (arrV (cy t) n f).slots[j]? = some (f j) := fun f => arrV_read _ f hj
  have q4 : some (Value.int (Int32.ofInt (σ k j))) = some (Value.int (Int32.ofInt (σ' k j))) := (e _).symm.trans (q3.trans (e _))
  injection q4 with q4
  injection q4 with q4
  unfold fw_c
  rw [q4]
theorem wd_larr (h : va_P D vwCl (ab_WD cy ad wr nn_sh σ) H) (h' : va_P D vwCl (ab_WD cy ad wr nn_sh σ') H) {k j n : Nat} (hk : nn_sh[k]? = some (.inr (1, n))) (hj : j < n) : fw_d (σ k j) = fw_d (σ' k j) := by
  have g := h k _ (ab_WD_get hk)
  have g' := h' k _ (ab_WD_get hk)
  replace g : H[ad k]? = some (arrV (cy 1) n (fun j => Value.long (Int64.ofInt (σ k j)))) := g
  replace g' : H[ad k]? = some (arrV (cy 1) n (fun j => Value.long (Int64.ofInt (σ' k j)))) := g'
  have q := Option.some.inj (g.symm.trans g')
  have q2 : (arrV (cy 1) n (fun j => Value.long (Int64.ofInt (σ k j)))).slots = (arrV (cy 1) n (fun j => Value.long (Int64.ofInt (σ' k j)))).slots := congrArg Cell.slots q
  have q3 := congrArg (fun a => a[j]?) q2
  have e : ∀ f : Nat → Value, (arrV (cy 1) n f).slots[j]? = some (f j) := fun f => arrV_read _ f hj
  have q4 : some (Value.long (Int64.ofInt (σ k j))) = some (Value.long (Int64.ofInt (σ' k j))) := (e _).symm.trans (q3.trans (e _))
  injection q4 with q4
  injection q4 with q4
  unfold fw_d
  rw [q4]
end
end
section
/-! both sides agree: the tape, how many there are of each, what is kept -/
def su (k j : Nat) : Prop := (k = 2 ∧ j < 940) ∨ (k = 94 ∧ j < 940) ∨ (k = 95 ∧ j < 4) ∨ (k = 97 ∧ j < 948) ∨ (k = 102 ∧ j < 2) ∨ (k = 1 ∧ j = 1) ∨ (k = 3 ∧ 11 ≤ j ∧ j ≤ 14) ∨ (k = 18 ∧ (11 ≤ j ∧ j ≤ 14 ∨ j = 16)) ∨ (k = 33 ∧ (11 ≤ j ∧ j ≤ 14 ∨ j = 16)) ∨ (k = 93 ∧ (j = 2 ∨ j = 22 ∨ j = 23))
def su_b (k a b : Nat) : Bool := match ab_rdT nn_T k a b with
  | some r => decide (-2147483648 ≤ r.1 ∧ r.2 ≤ 2147483647)
  | none => false
theorem su_b_ok {k a b j : Nat} {σ : ab_SG} (h : su_b k a b = true) (hR : ab_okR nn_T σ) (h1 : a ≤ j) (h2 : j ≤ b) : fw_c (σ k j) = σ k j := by
  unfold su_b at h
  cases hr : ab_rdT nn_T k a b with
  | none => rw [hr] at h; cases h
  | some r =>
    rw [hr] at h
    have h3 : -2147483648 ≤ r.1 ∧ r.2 ≤ 2147483647 := of_decide_eq_true h
    have h4 := ab_rdT_ok hR hr h1 h2
    exact fw_c_id (by omega) (by omega)
def cn (σ : ab_SG) : Prop := ∀ k j : Nat, su k j → fw_c (σ k j) = σ k j
def vw (σ' σ : ab_SG) : Prop := ∀ k j : Nat, su k j → σ' k j = fw_c (σ k j)
theorem su_b2 : su_b 2 0 939 = true := by decide +kernel
theorem su_b94 : su_b 94 0 939 = true := by decide +kernel
theorem su_b95 : su_b 95 0 3 = true := by decide +kernel
theorem su_b97 : su_b 97 0 947 = true := by decide +kernel
theorem su_b102 : su_b 102 0 1 = true := by decide +kernel
theorem su_bf : (su_b 1 1 1 && su_b 93 2 2 && su_b 93 22 22 && su_b 3 11 11 && su_b 3 12 12 && su_b 3 13 13 && su_b 3 14 14 && su_b 18 11 11 && su_b 18 12 12 && su_b 18 13 13 && su_b 18 14 14 && su_b 18 16 16 && su_b 33 11 11 && su_b 33 12 12 && su_b 33 13 13 && su_b 33 14 14 && su_b 33 16 16 && su_b 93 23 23) = true := by decide +kernel
theorem cn_of {σ : ab_SG} (h : ab_okR nn_T σ) : cn σ := by
  have hf := su_bf
  simp only [Bool.and_eq_true] at hf
  obtain ⟨⟨⟨⟨⟨⟨⟨⟨⟨⟨⟨⟨⟨⟨⟨⟨⟨f1, f2⟩, f3⟩, f4⟩, f5⟩, f6⟩, f7⟩, f8⟩, f9⟩, f10⟩, f11⟩, f12⟩, f13⟩, f14⟩, f15⟩, f16⟩, f17⟩, f18⟩ := hf
  rintro k j (⟨rfl, h1⟩ | ⟨rfl, h1⟩ | ⟨rfl, h1⟩ | ⟨rfl, h1⟩ | ⟨rfl, h1⟩ | ⟨rfl, rfl⟩ | ⟨rfl, h1⟩ | ⟨rfl, h1⟩ | ⟨rfl, h1⟩ | ⟨rfl, h1⟩)
  · exact su_b_ok su_b2 h (by omega) (by omega)
  · exact su_b_ok su_b94 h (by omega) (by omega)
  · exact su_b_ok su_b95 h (by omega) (by omega)
  · exact su_b_ok su_b97 h (by omega) (by omega)
  · exact su_b_ok su_b102 h (by omega) (by omega)
  · exact su_b_ok f1 h (by omega) (by omega)
  · rcases (show j = 11 ∨ j = 12 ∨ j = 13 ∨ j = 14 by omega) with rfl | rfl | rfl | rfl
    · exact su_b_ok f4 h (by omega) (by omega)
    · exact su_b_ok f5 h (by omega) (by omega)
    · exact su_b_ok f6 h (by omega) (by omega)
    · exact su_b_ok f7 h (by omega) (by omega)
  · rcases (show j = 11 ∨ j = 12 ∨ j = 13 ∨ j = 14 ∨ j = 16 by omega) with rfl | rfl | rfl | rfl | rfl
    · exact su_b_ok f8 h (by omega) (by omega)
    · exact su_b_ok f9 h (by omega) (by omega)
    · exact su_b_ok f10 h (by omega) (by omega)
    · exact su_b_ok f11 h (by omega) (by omega)
    · exact su_b_ok f12 h (by omega) (by omega)
  · rcases (show j = 11 ∨ j = 12 ∨ j = 13 ∨ j = 14 ∨ j = 16 by omega) with rfl | rfl | rfl | rfl | rfl
    · exact su_b_ok f13 h (by omega) (by omega)
    · exact su_b_ok f14 h (by omega) (by omega)
    · exact su_b_ok f15 h (by omega) (by omega)
    · exact su_b_ok f16 h (by omega) (by omega)
    · exact su_b_ok f17 h (by omega) (by omega)
  · rcases h1 with rfl | rfl | rfl
    · exact su_b_ok f2 h (by omega) (by omega)
    · exact su_b_ok f3 h (by omega) (by omega)
    · exact su_b_ok f18 h (by omega) (by omega)
theorem vw_of {cy : Nat → ClassId} {ad wr : Nat → Nat} {D : va_G} {σ σ' : ab_SG} {H : Heap} (hR : ab_okR nn_T σ) (h : va_P D vwCl (ab_WD cy ad wr nn_sh σ) H) (h' : va_P D vwCl (ab_WD cy ad wr nn_sh σ') H) : vw σ σ' := by
  intro k j hs
  rw [← cn_of hR k j hs]
  rcases hs with ⟨rfl, h1⟩ | ⟨rfl, h1⟩ | ⟨rfl, h1⟩ | ⟨rfl, h1⟩ | ⟨rfl, h1⟩ | ⟨rfl, rfl⟩ | ⟨rfl, h1⟩ | ⟨rfl, h1⟩ | ⟨rfl, h1⟩ | ⟨rfl, h1⟩
  · exact wd_arr h h' (k := 2) (t := 2) (n := 940) rfl (by decide) h1
  · exact wd_arr h h' (k := 94) (t := 0) (n := 940) rfl (by decide) h1
  · exact wd_arr h h' (k := 95) (t := 0) (n := 474) rfl (by decide) (by omega)
  · exact wd_arr h h' (k := 97) (t := 0) (n := 948) rfl (by decide) h1
  · exact wd_arr h h' (k := 102) (t := 3) (n := 2) rfl (by decide) h1
  · exact wd_int h h' (k := 1) (j := 1) rfl rfl rfl (by decide)
  · rcases (show j = 11 ∨ j = 12 ∨ j = 13 ∨ j = 14 by omega) with rfl | rfl | rfl | rfl
    · exact wd_int h h' (k := 3) (j := 11) rfl rfl rfl (by decide)
    · exact wd_int h h' (k := 3) (j := 12) rfl rfl rfl (by decide)
    · exact wd_int h h' (k := 3) (j := 13) rfl rfl rfl (by decide)
    · exact wd_int h h' (k := 3) (j := 14) rfl rfl rfl (by decide)
  · rcases (show j = 11 ∨ j = 12 ∨ j = 13 ∨ j = 14 ∨ j = 16 by omega) with rfl | rfl | rfl | rfl | rfl
    · exact wd_int h h' (k := 18) (j := 11) rfl rfl rfl (by decide)
    · exact wd_int h h' (k := 18) (j := 12) rfl rfl rfl (by decide)
    · exact wd_int h h' (k := 18) (j := 13) rfl rfl rfl (by decide)
    · exact wd_int h h' (k := 18) (j := 14) rfl rfl rfl (by decide)
    · exact wd_int h h' (k := 18) (j := 16) rfl rfl rfl (by decide)
  · rcases (show j = 11 ∨ j = 12 ∨ j = 13 ∨ j = 14 ∨ j = 16 by omega) with rfl | rfl | rfl | rfl | rfl
    · exact wd_int h h' (k := 33) (j := 11) rfl rfl rfl (by decide)
    · exact wd_int h h' (k := 33) (j := 12) rfl rfl rfl (by decide)
    · exact wd_int h h' (k := 33) (j := 13) rfl rfl rfl (by decide)
    · exact wd_int h h' (k := 33) (j := 14) rfl rfl rfl (by decide)
    · exact wd_int h h' (k := 33) (j := 16) rfl rfl rfl (by decide)
  · rcases h1 with rfl | rfl | rfl
    · exact wd_int h h' (k := 93) (j := 2) rfl rfl rfl (by decide)
    · exact wd_int h h' (k := 93) (j := 22) rfl rfl rfl (by decide)
    · exact wd_int h h' (k := 93) (j := 23) rfl rfl rfl (by decide)
/-- the tapes -/
def ra (σ : ab_SG) : Prop := σ 1 1 = σ 93 2 ∧ 0 ≤ σ 1 1 ∧ σ 1 1 ≤ 940 ∧ ∀ j : Nat, (j : Int) < σ 1 1 → tp_t σ j = σ 94 j
/-- how many there are -/
def rb (σ : ab_SG) : Prop := σ 3 11 = σ 95 0 ∧ σ 3 12 = σ 95 1 ∧ σ 3 13 = σ 95 2 ∧ ((σ 93 22 = 1 ∧ σ 95 3 = σ 3 14) ∨ (σ 93 22 = 0 ∧ σ 3 14 = 9 ∧ σ 102 0 = 0 ∧ σ 102 1 = 0 ∧ σ 95 2 = 0))
/-- what is kept -/
def rk (σ : ab_SG) : Prop := (σ 18 16 = σ 102 0 ∧ (σ 102 0 = 0 ∨ σ 102 0 = 1) ∧ (σ 102 0 = 1 → σ 18 11 = σ 97 0 ∧ σ 18 12 = σ 97 1 ∧ σ 18 13 = σ 97 2 ∧ σ 18 14 = σ 97 3)) ∧
  (σ 33 16 = σ 102 1 ∧ (σ 102 1 = 0 ∨ σ 102 1 = 1) ∧ (σ 102 1 = 1 → σ 33 11 = σ 97 474 ∧ σ 33 12 = σ 97 475 ∧ σ 33 13 = σ 97 476 ∧ σ 33 14 = σ 97 477))
def RQ9 (σ : ab_SG) : Prop := ra σ ∧ rb σ ∧ rk σ
theorem su2 {j : Nat} (h : j < 940) : su 2 j := Or.inl ⟨rfl, h⟩
theorem su94 {j : Nat} (h : j < 940) : su 94 j := Or.inr (Or.inl ⟨rfl, h⟩)
theorem su95 {j : Nat} (h : j < 4) : su 95 j := Or.inr (Or.inr (Or.inl ⟨rfl, h⟩))
theorem su97 {j : Nat} (h : j < 948) : su 97 j := Or.inr (Or.inr (Or.inr (Or.inl ⟨rfl, h⟩)))
theorem su102 {j : Nat} (h : j < 2) : su 102 j := Or.inr (Or.inr (Or.inr (Or.inr (Or.inl ⟨rfl, h⟩))))
theorem su1 : su 1 1 := Or.inr (Or.inr (Or.inr (Or.inr (Or.inr (Or.inl ⟨rfl, rfl⟩)))))
theorem su3 {j : Nat} (h : 11 ≤ j) (h' : j ≤ 14) : su 3 j := Or.inr (Or.inr (Or.inr (Or.inr (Or.inr (Or.inr (Or.inl ⟨rfl, h, h'⟩))))))
theorem su18 {j : Nat} (h : 11 ≤ j ∧ j ≤ 14 ∨ j = 16) : su 18 j := Or.inr (Or.inr (Or.inr (Or.inr (Or.inr (Or.inr (Or.inr (Or.inl ⟨rfl, h⟩)))))))
theorem su33 {j : Nat} (h : 11 ≤ j ∧ j ≤ 14 ∨ j = 16) : su 33 j := Or.inr (Or.inr (Or.inr (Or.inr (Or.inr (Or.inr (Or.inr (Or.inr (Or.inl ⟨rfl, h⟩))))))))
theorem su93 {j : Nat} (h : j = 2 ∨ j = 22) : su 93 j := Or.inr (Or.inr (Or.inr (Or.inr (Or.inr (Or.inr (Or.inr (Or.inr (Or.inr ⟨rfl, h.imp id Or.inl⟩))))))))
theorem su9323 : su 93 23 := Or.inr (Or.inr (Or.inr (Or.inr (Or.inr (Or.inr (Or.inr (Or.inr (Or.inr ⟨rfl, Or.inr (Or.inr rfl)⟩))))))))
theorem tp_c (σ σ' : ab_SG) (j : Nat) (h : σ' 2 j = fw_c (σ 2 j)) : tp_t σ' j = tp_t σ j := by
  show (Int32.ofInt (σ' 2 j) &&& Int32.ofInt 255).toInt = (Int32.ofInt (σ 2 j) &&& Int32.ofInt 255).toInt
  rw [h, fw_c_of]
theorem ra_tr {σ σ' : ab_SG} (hv : vw σ' σ) (h : ra σ) : ra σ' := by
  obtain ⟨h1, h2, h3, h4⟩ := h
  have e1 : σ' 1 1 = σ 1 1 := (hv 1 1 su1).trans (fw_c_id (by omega) (by omega))
  have e2 : σ' 93 2 = σ 93 2 := (hv 93 2 (su93 (Or.inl rfl))).trans (fw_c_id (by omega) (by omega))
  refine ⟨by rw [e1, e2]; exact h1, by rw [e1]; exact h2, by rw [e1]; exact h3, fun j hj => ?_⟩
  rw [e1] at hj
  have hj9 : j < 940 := by omega
  have e3 := tp_t_in σ j
  rw [tp_c σ σ' j (hv 2 j (su2 hj9)), hv 94 j (su94 hj9), ← h4 j hj]
  exact (fw_c_id (by omega) (by omega)).symm
theorem rb_tr {σ σ' : ab_SG} (hv : vw σ' σ) (h : rb σ) : rb σ' := by
  obtain ⟨h1, h2, h3, h4⟩ := h
  unfold rb
  rw [hv 3 11 (su3 (by omega) (by omega)), hv 3 12 (su3 (by omega) (by omega)), hv 3 13 (su3 (by omega) (by omega)), hv 3 14 (su3 (by omega) (by omega)), hv 95 0 (su95 (by omega)), hv 95 1 (su95 (by omega)), hv 95 2 (su95 (by omega)), hv 95 3 (su95 (by omega)), hv 93 22 (su93 (Or.inr rfl)), hv 102 0 (su102 (by omega)), hv 102 1 (su102 (by omega)), h1, h2, h3]
  refine ⟨rfl, rfl, rfl, ?_⟩
  rcases h4 with ⟨a, b⟩ | ⟨a, b, c, d, e⟩
  · rw [a, b]
    exact Or.inl ⟨(fw_c_id (by decide) (by decide)), rfl⟩
  · rw [a, b, c, d, e]
    exact Or.inr ⟨(fw_c_id (by decide) (by decide)), (fw_c_id (by decide) (by decide)), (fw_c_id (by decide) (by decide)), (fw_c_id (by decide) (by decide)), (fw_c_id (by decide) (by decide))⟩
theorem rk_tr {σ σ' : ab_SG} (hv : vw σ' σ) (h : rk σ) : rk σ' := by
  obtain ⟨⟨h1, h2, h3⟩, ⟨h4, h5, h6⟩⟩ := h
  unfold rk
  rw [hv 18 16 (su18 (Or.inr rfl)), hv 33 16 (su33 (Or.inr rfl)), hv 102 0 (su102 (by omega)), hv 102 1 (su102 (by omega)), hv 18 11 (su18 (by omega)), hv 18 12 (su18 (by omega)), hv 18 13 (su18 (by omega)), hv 18 14 (su18 (by omega)), hv 33 11 (su33 (by omega)), hv 33 12 (su33 (by omega)), hv 33 13 (su33 (by omega)), hv 33 14 (su33 (by omega)),
    hv 97 0 (su97 (by omega)), hv 97 1 (su97 (by omega)), hv 97 2 (su97 (by omega)), hv 97 3 (su97 (by omega)), hv 97 474 (su97 (by omega)), hv 97 475 (su97 (by omega)), hv 97 476 (su97 (by omega)), hv 97 477 (su97 (by omega)), h1, h4]
  refine ⟨⟨rfl, ?_, ?_⟩, ⟨rfl, ?_, ?_⟩⟩
  · rcases h2 with h2 | h2 <;> rw [h2]
    · exact Or.inl (fw_c_id (by decide) (by decide))
    · exact Or.inr (fw_c_id (by decide) (by decide))
  · intro g
    rcases h2 with h2 | h2
    · rw [h2, fw_c_id (by decide) (by decide)] at g
      exact absurd g (by decide)
    · obtain ⟨a, b, c, d⟩ := h3 h2
      rw [a, b, c, d]
      exact ⟨rfl, rfl, rfl, rfl⟩
  · rcases h5 with h5 | h5 <;> rw [h5]
    · exact Or.inl (fw_c_id (by decide) (by decide))
    · exact Or.inr (fw_c_id (by decide) (by decide))
  · intro g
    rcases h5 with h5 | h5
    · rw [h5, fw_c_id (by decide) (by decide)] at g
      exact absurd g (by decide)
    · obtain ⟨a, b, c, d⟩ := h6 h5
      rw [a, b, c, d]
      exact ⟨rfl, rfl, rfl, rfl⟩
theorem RQ9_tr {σ σ' : ab_SG} (hv : vw σ' σ) (h : RQ9 σ) : RQ9 σ' := ⟨ra_tr hv h.1, rb_tr hv h.2.1, rk_tr hv h.2.2⟩
/-- pieces that stay -/
theorem ra_fr {σ σ' : ab_SG} (e1 : σ' 1 1 = σ 1 1) (e2 : σ' 93 2 = σ 93 2) (e3 : ∀ j : Nat, j < 940 → tp_t σ' j = tp_t σ j) (e4 : ∀ j : Nat, j < 940 → σ' 94 j = σ 94 j) (h : ra σ) : ra σ' := by
  obtain ⟨h1, h2, h3, h4⟩ := h
  refine ⟨by rw [e1, e2]; exact h1, by rw [e1]; exact h2, by rw [e1]; exact h3, fun j hj => ?_⟩
  rw [e1] at hj
  rw [e3 j (by omega), e4 j (by omega)]
  exact h4 j hj
theorem rb_fr {σ σ' : ab_SG} (e1 : ∀ j : Nat, 11 ≤ j → j ≤ 14 → σ' 3 j = σ 3 j) (e2 : ∀ j : Nat, j < 4 → σ' 95 j = σ 95 j) (e3 : σ' 93 22 = σ 93 22) (e4 : ∀ j : Nat, j < 2 → σ' 102 j = σ 102 j) (h : rb σ) : rb σ' := by
  unfold rb
  rw [e1 11 (by omega) (by omega), e1 12 (by omega) (by omega), e1 13 (by omega) (by omega), e1 14 (by omega) (by omega), e2 0 (by omega), e2 1 (by omega), e2 2 (by omega), e2 3 (by omega), e3, e4 0 (by omega), e4 1 (by omega)]
  exact h
theorem rb_ly {σ σ' : ab_SG} (e1 : ∀ j : Nat, 11 ≤ j → j ≤ 14 → σ' 3 j = σ 3 j) (e2 : ∀ j : Nat, j < 3 → σ' 95 j = σ 95 j) (e3 : ly_is σ σ') (h : rb σ) : rb σ' := by
  obtain ⟨h1, h2, h3, h4⟩ := h
  obtain ⟨g1, g2, g3⟩ := e3
  refine ⟨by rw [e1 11 (by omega) (by omega), e2 0 (by omega)]; exact h1, by rw [e1 12 (by omega) (by omega), e2 1 (by omega)]; exact h2, by rw [e1 13 (by omega) (by omega), e2 2 (by omega)]; exact h3, Or.inl ⟨g1, ?_⟩⟩
  rw [e1 14 (by omega) (by omega)]
  rcases h4 with ⟨a, b⟩ | ⟨a, b, -, -⟩
  · rw [g3 (by omega)]
    exact b
  · rw [g2 a]
    exact b.symm
theorem rk_fr {σ σ' : ab_SG} (e1 : ∀ j : Nat, (11 ≤ j ∧ j ≤ 14 ∨ j = 16) → σ' 18 j = σ 18 j) (e2 : ∀ j : Nat, (11 ≤ j ∧ j ≤ 14 ∨ j = 16) → σ' 33 j = σ 33 j) (e3 : ∀ j : Nat, j < 948 → σ' 97 j = σ 97 j) (e4 : ∀ j : Nat, j < 2 → σ' 102 j = σ 102 j) (h : rk σ) : rk σ' := by
  unfold rk
  rw [e1 11 (by omega), e1 12 (by omega), e1 13 (by omega), e1 14 (by omega), e1 16 (by omega), e2 11 (by omega), e2 12 (by omega), e2 13 (by omega), e2 14 (by omega), e2 16 (by omega), e3 0 (by omega), e3 1 (by omega), e3 2 (by omega), e3 3 (by omega), e3 474 (by omega), e3 475 (by omega), e3 476 (by omega), e3 477 (by omega), e4 0 (by omega), e4 1 (by omega)]
  exact h
/-- a row, a place that a list does not name -/
def mk_b (M : ab_ML) (k j : Nat) : Bool := M.all (fun q => !(q.1.beq k && (q.2.beq j || q.2.beq 1000000)))
theorem mk_at {M : ab_ML} {σ σ' : ab_SG} (h : ab_okM M σ σ') {k j : Nat} (hk : mk_b M k j = true) : σ' k j = σ k j := by
  refine h k j (fun q hq hh => ?_)
  have h1 := List.all_eq_true.mp hk q hq
  rw [hh.1, Nat.beq_refl] at h1
  rcases hh.2 with h2 | h2
  · rw [h2, Nat.beq_refl] at h1
    cases h1
  · rw [h2, Nat.beq_refl, Bool.or_true] at h1
    cases h1
theorem mk_row {M : ab_ML} {σ σ' : ab_SG} (h : ab_okM M σ σ') {k : Nat} (hk : M.all (fun q => !(q.1.beq k)) = true) (j : Nat) : σ' k j = σ k j := by
  refine h k j (fun q hq hh => ?_)
  have h1 := List.all_eq_true.mp hk q hq
  rw [hh.1, Nat.beq_refl] at h1
  cases h1
section
variable {M1 M2 : ab_ML} {σ σ1 σm σ2 : ab_SG}
theorem mid_at (hc : cn σ) (h1 : ab_okM M1 σ σ1) (hv : vw σm σ1) {k j : Nat} (hs : su k j) (hk : mk_b M1 k j = true) : σm k j = σ k j := by
  rw [hv k j hs, mk_at h1 hk]
  exact hc k j hs
theorem mid_row (hc : cn σ) (h1 : ab_okM M1 σ σ1) (hv : vw σm σ1) {k : Nat} (hk : M1.all (fun q => !(q.1.beq k)) = true) (j : Nat) (hs : su k j) : σm k j = σ k j := by
  rw [hv k j hs, mk_row h1 hk]
  exact hc k j hs
theorem two_at (hc : cn σ) (h1 : ab_okM M1 σ σ1) (hv : vw σm σ1) (h2 : ab_okM M2 σm σ2) {k j : Nat} (hs : su k j) (hk : mk_b M1 k j = true) (hk2 : mk_b M2 k j = true) : σ2 k j = σ k j := (mk_at h2 hk2).trans (mid_at hc h1 hv hs hk)
theorem two_row (hc : cn σ) (h1 : ab_okM M1 σ σ1) (hv : vw σm σ1) (h2 : ab_okM M2 σm σ2) {k : Nat} (hk : M1.all (fun q => !(q.1.beq k)) = true) (hk2 : M2.all (fun q => !(q.1.beq k)) = true) (j : Nat) (hs : su k j) : σ2 k j = σ k j := (mk_row h2 hk2 j).trans (mid_row hc h1 hv hk j hs)
/-- both leave the counts -/
def kb_b (M : ab_ML) : Bool := M.all (fun q => !(q.1.beq 3) && !(q.1.beq 95) && !(q.1.beq 102)) && mk_b M 93 22
/-- both leave what is kept -/
def kk_b (M : ab_ML) : Bool := M.all (fun q => !(q.1.beq 18) && !(q.1.beq 33) && !(q.1.beq 97) && !(q.1.beq 102))
/-- both leave the tapes -/
def ka_b (M : ab_ML) : Bool := M.all (fun q => !(q.1.beq 2) && !(q.1.beq 94)) && mk_b M 1 1 && mk_b M 93 2
theorem kb_row {M : ab_ML} {k : Nat} (h : M.all (fun q => !(q.1.beq 3) && !(q.1.beq 95) && !(q.1.beq 102)) = true) (hk : k = 3 ∨ k = 95 ∨ k = 102) : M.all (fun q => !(q.1.beq k)) = true := by
  refine List.all_eq_true.mpr (fun q hq => ?_)
  have g := List.all_eq_true.mp h q hq
  rw [Bool.and_eq_true, Bool.and_eq_true] at g
  rcases hk with rfl | rfl | rfl
  · exact g.1.1
  · exact g.1.2
  · exact g.2
theorem kk_row {M : ab_ML} {k : Nat} (h : kk_b M = true) (hk : k = 18 ∨ k = 33 ∨ k = 97 ∨ k = 102) : M.all (fun q => !(q.1.beq k)) = true := by
  refine List.all_eq_true.mpr (fun q hq => ?_)
  have g := List.all_eq_true.mp h q hq
  rw [Bool.and_eq_true, Bool.and_eq_true, Bool.and_eq_true] at g
  rcases hk with rfl | rfl | rfl | rfl
  · exact g.1.1.1
  · exact g.1.1.2
  · exact g.1.2
  · exact g.2
theorem ka_row {M : ab_ML} {k : Nat} (h : M.all (fun q => !(q.1.beq 2) && !(q.1.beq 94)) = true) (hk : k = 2 ∨ k = 94) : M.all (fun q => !(q.1.beq k)) = true := by
  refine List.all_eq_true.mpr (fun q hq => ?_)
  have g := List.all_eq_true.mp h q hq
  rw [Bool.and_eq_true] at g
  rcases hk with rfl | rfl
  · exact g.1
  · exact g.2
theorem rb_two (hc : cn σ) (h1 : ab_okM M1 σ σ1) (hv : vw σm σ1) (h2 : ab_okM M2 σm σ2) (k1 : kb_b M1 = true) (k2 : kb_b M2 = true) (h : rb σ) : rb σ2 := by
  unfold kb_b at k1 k2
  rw [Bool.and_eq_true] at k1 k2
  exact rb_fr (fun j a b => two_row hc h1 hv h2 (kb_row k1.1 (Or.inl rfl)) (kb_row k2.1 (Or.inl rfl)) j (su3 a b)) (fun j a => two_row hc h1 hv h2 (kb_row k1.1 (Or.inr (Or.inl rfl))) (kb_row k2.1 (Or.inr (Or.inl rfl))) j (su95 a)) (two_at hc h1 hv h2 (su93 (Or.inr rfl)) k1.2 k2.2) (fun j a => two_row hc h1 hv h2 (kb_row k1.1 (Or.inr (Or.inr rfl))) (kb_row k2.1 (Or.inr (Or.inr rfl))) j (su102 a)) h
theorem rk_two (hc : cn σ) (h1 : ab_okM M1 σ σ1) (hv : vw σm σ1) (h2 : ab_okM M2 σm σ2) (k1 : kk_b M1 = true) (k2 : kk_b M2 = true) (h : rk σ) : rk σ2 :=
  rk_fr (fun j a => two_row hc h1 hv h2 (kk_row k1 (Or.inl rfl)) (kk_row k2 (Or.inl rfl)) j (su18 a)) (fun j a => two_row hc h1 hv h2 (kk_row k1 (Or.inr (Or.inl rfl))) (kk_row k2 (Or.inr (Or.inl rfl))) j (su33 a)) (fun j a => two_row hc h1 hv h2 (kk_row k1 (Or.inr (Or.inr (Or.inl rfl)))) (kk_row k2 (Or.inr (Or.inr (Or.inl rfl)))) j (su97 a)) (fun j a => two_row hc h1 hv h2 (kk_row k1 (Or.inr (Or.inr (Or.inr rfl)))) (kk_row k2 (Or.inr (Or.inr (Or.inr rfl)))) j (su102 a)) h
theorem ra_two (hc : cn σ) (h1 : ab_okM M1 σ σ1) (hv : vw σm σ1) (h2 : ab_okM M2 σm σ2) (k1 : ka_b M1 = true) (k2 : ka_b M2 = true) (h : ra σ) : ra σ2 := by
  unfold ka_b at k1 k2
  rw [Bool.and_eq_true, Bool.and_eq_true] at k1 k2
  refine ra_fr (two_at hc h1 hv h2 su1 k1.1.2 k2.1.2) (two_at hc h1 hv h2 (su93 (Or.inl rfl)) k1.2 k2.2) (fun j a => ?_) (fun j a => two_row hc h1 hv h2 (ka_row k1.1.1 (Or.inr rfl)) (ka_row k2.1.1 (Or.inr rfl)) j (su94 a)) h
  have e := two_row hc h1 hv h2 (ka_row k1.1.1 (Or.inl rfl)) (ka_row k2.1.1 (Or.inl rfl)) j (su2 a)
  exact tp_c σ σ2 j (by rw [e]; exact (hc 2 j (su2 a)).symm)
theorem rb_two_ly (hc : cn σ) (h1 : ab_okM M1 σ σ1) (hv : vw σm σ1) (h2 : ab_okM M2 σm σ2) (k1 : kb_b M1 = true) (k2 : M2.all (fun q => !(q.1.beq 3)) = true) (k3 : (mk_b M2 95 0 && mk_b M2 95 1 && mk_b M2 95 2) = true) (hl : ly_is σm σ2) (h : rb σ) : rb σ2 := by
  unfold kb_b at k1
  rw [Bool.and_eq_true] at k1
  rw [Bool.and_eq_true, Bool.and_eq_true] at k3
  have e22 : σm 93 22 = σ 93 22 := mid_at hc h1 hv (su93 (Or.inr rfl)) k1.2
  have e95 : ∀ j : Nat, j < 4 → σm 95 j = σ 95 j := fun j a => mid_row hc h1 hv (kb_row k1.1 (Or.inr (Or.inl rfl))) j (su95 a)
  refine rb_ly (σ := σ) (fun j a b => two_row hc h1 hv h2 (kb_row k1.1 (Or.inl rfl)) k2 j (su3 a b)) (fun j a => ?_) ?_ h
  · rw [← e95 j (by omega)]
    rcases (show j = 0 ∨ j = 1 ∨ j = 2 by omega) with rfl | rfl | rfl
    · exact mk_at h2 k3.1.1
    · exact mk_at h2 k3.1.2
    · exact mk_at h2 k3.2
  · obtain ⟨g1, g2, g3⟩ := hl
    refine ⟨g1, fun q => g2 (e22.trans q), fun q => ?_⟩
    rw [g3 (by rw [e22]; exact q)]
    exact e95 3 (by omega)
end
theorem okM_of {M : ab_ML} {σ σ' : ab_SG} (h : σ' = σ) : ab_okM M σ σ' := by
  rw [h]
  exact fun _ _ _ => rfl
theorem okM_self (M : ab_ML) (σ : ab_SG) : ab_okM M σ σ := fun _ _ _ => rfl
theorem okM_one {σ : ab_SG} {k j : Nat} {x : Int} : ab_okM [(k, j)] σ (ab_ups σ k j x) := fun a b h => ab_ups_ne (fun q => h (k, j) List.mem_cons_self ⟨q.1.symm, Or.inl q.2.symm⟩)
theorem okM_two {σ : ab_SG} {k j k' j' : Nat} {x y : Int} : ab_okM [(k, j), (k', j')] σ (ab_ups (ab_ups σ k j x) k' j' y) := fun a b h => by
  rw [ab_ups_ne (fun q => h (k', j') (List.mem_cons_of_mem _ List.mem_cons_self) ⟨q.1.symm, Or.inl q.2.symm⟩), ab_ups_ne (fun q => h (k, j) List.mem_cons_self ⟨q.1.symm, Or.inl q.2.symm⟩)]
/-! bytes come -/
def k_feed (a b c d e : Int) (σ σ' : ab_SG) : Prop := (920 < (σ 1 1).toNat ∧ σ' = σ) ∨ ((σ 1 1).toNat ≤ 920 ∧ ap_is σ σ' (σ 1 1).toNat 20 (fd_w ap_b a b c d e))
def km_feed (a b c d e : Int) (σ σ' : ab_SG) : Prop := (920 < (σ 93 2).toNat ∧ σ' = ab_ups σ 93 0 0) ∨ ((σ 93 2).toNat ≤ 920 ∧ cm_is σ σ' (σ 93 2).toNat 20 (fd_w ap_m a b c d e))
theorem sk_feed {σ : ab_SG} {a b c d e : Int} (h : ra σ) : sp_feed [(2, 0, 0), (0, 0, a), (0, 0, b), (0, 0, c), (0, 0, d), (0, 0, e)] σ (fun _ σ' => k_feed a b c d e σ σ') := by
  obtain ⟨-, h2, h3, -⟩ := h
  exact ⟨a, b, c, d, e, (σ 1 1).toNat, rfl, by omega, by omega, fun g => Or.inl ⟨g, rfl⟩, fun g σ' hs => Or.inr ⟨g, hs⟩⟩
theorem mid_feed {σ σ1 σm : ab_SG} {a b c d e : Int} (hc : cn σ) (h1 : k_feed a b c d e σ σ1) (hv : vw σm σ1) {k j : Nat} (hs : su k j) (hk : mk_b ap_M k j = true) : σm k j = σ k j := by
  rcases h1 with ⟨-, h⟩ | ⟨-, g, -⟩
  · exact mid_at (M1 := ap_M) hc (okM_of h) hv hs hk
  · exact mid_at hc g hv hs hk
theorem sm_feed {σ σ1 σm : ab_SG} {a b c d e : Int} (hc : cn σ) (hR : RQ9 σ) (h1 : k_feed a b c d e σ σ1) (hv : vw σm σ1) : sp_m_feed [(2, 93, 0), (0, 0, a), (0, 0, b), (0, 0, c), (0, 0, d), (0, 0, e)] σm (fun _ σ' => km_feed a b c d e σm σ') := by
  obtain ⟨⟨r1, r2, r3, -⟩, -, -⟩ := hR
  have e2 : σm 93 2 = σ 93 2 := mid_feed hc h1 hv (su93 (Or.inl rfl)) (by decide)
  exact ⟨a, b, c, d, e, (σm 93 2).toNat, rfl, by omega, by omega, fun g => Or.inl ⟨g, rfl⟩, fun g σ' hs => Or.inr ⟨g, hs⟩⟩
theorem fd_eq (a b c d e : Int) (i : Nat) : fw_op 8 (fd_w ap_b a b c d e i) 255 = fd_w ap_m a b c d e i := (ap_eq _ (i % 4) (Nat.mod_lt _ (by decide))).1
theorem rr_feed {σ σ1 σm σ2 : ab_SG} {a b c d e : Int} (hc : cn σ) (hR : RQ9 σ) (h1 : k_feed a b c d e σ σ1) (hv : vw σm σ1) (h2 : km_feed a b c d e σm σ2) : RQ9 σ2 := by
  have e2 : σm 93 2 = σ 93 2 := mid_feed hc h1 hv (su93 (Or.inl rfl)) (by decide)
  obtain ⟨⟨r1, r2, r3, r4⟩, rB, rK⟩ := hR
  rcases h1 with ⟨g1, g2⟩ | ⟨g1, g2, g3, g4, g5⟩
  · rcases h2 with ⟨-, rfl⟩ | ⟨q1, -⟩
    · have s1 : ab_okM [] σ σ1 := okM_of g2
      have s2 : ab_okM [(93, 0)] σm (ab_ups σm 93 0 0) := okM_one
      exact ⟨ra_two hc s1 hv s2 (by decide) (by decide) ⟨r1, r2, r3, r4⟩, rb_two hc s1 hv s2 (by decide) (by decide) rB, rk_two hc s1 hv s2 (by decide) (by decide) rK⟩
    · omega
  · rcases h2 with ⟨q1, -⟩ | ⟨q1, q2, q3, q4, q5⟩
    · omega
    · refine ⟨?_, rb_two hc g2 hv q2 (by decide) (by decide) rB, rk_two hc g2 hv q2 (by decide) (by decide) rK⟩
      have e11 : σ2 1 1 = ((σ 1 1).toNat + 20 : Nat) := by
        rw [mk_at q2 (k := 1) (j := 1) (by decide), hv 1 1 su1, g3]
        exact fw_c_id (by omega) (by omega)
      rw [e2] at q1 q3 q4 q5
      have en : (σ 93 2).toNat = (σ 1 1).toNat := by rw [r1]
      rw [en] at q1 q3 q4 q5
      have et : ∀ j : Nat, j < 940 → tp_t σ2 j = tp_t σ1 j := fun j hj => by
        refine tp_c σ1 σ2 j ?_
        rw [mk_row q2 (k := 2) (by decide)]
        exact hv 2 j (su2 hj)
      refine ⟨by rw [e11, q3], by rw [e11]; omega, by rw [e11]; omega, fun j hj => ?_⟩
      rw [e11] at hj
      have hj9 : j < 940 := by omega
      rw [et j hj9]
      by_cases h : j < (σ 1 1).toNat
      · rw [q4 j h, mid_row hc g2 hv (k := 94) (by decide) j (su94 hj9), ← r4 j (by omega)]
        exact tp_c σ σ1 j (by rw [g4 j h]; exact (hc 2 j (su2 hj9)).symm)
      · obtain ⟨i, rfl⟩ : ∃ i : Nat, j = (σ 1 1).toNat + i := ⟨j - (σ 1 1).toNat, by omega⟩
        have hi : i < 20 := by omega
        rw [q5 i hi, ← fd_eq]
        show fw_op 8 (σ1 2 ((σ 1 1).toNat + i)) 255 = _
        rw [g5 i hi]
/-! bytes are taken away -/
def k_end (n : Int) (σ σ' : ab_SG) : Prop := ((0 ≤ fw_c n ∧ fw_c n ≤ σ 1 1) ∧ σ' = ab_ups σ 1 1 (fw_c n)) ∨ (¬ (0 ≤ fw_c n ∧ fw_c n ≤ σ 1 1) ∧ σ' = σ)
def km_end (n : Int) (σ σ' : ab_SG) : Prop := ((0 ≤ fw_c n ∧ fw_c n ≤ σ 93 2) ∧ σ' = ab_ups (ab_ups σ 93 0 0) 93 2 (fw_c n)) ∨ (¬ (0 ≤ fw_c n ∧ fw_c n ≤ σ 93 2) ∧ σ' = ab_ups σ 93 0 0)
theorem sk_end {σ : ab_SG} {n : Int} (h : ra σ) : sp_end [(2, 0, 0), (0, 0, n)] σ (fun _ σ' => k_end n σ σ') := ⟨n, rfl, ⟨h.2.1, h.2.2.1⟩, fun g => Or.inl ⟨g, rfl⟩, fun g => Or.inr ⟨g, rfl⟩⟩
theorem mid_end {σ σ1 σm : ab_SG} {n : Int} (hc : cn σ) (h1 : k_end n σ σ1) (hv : vw σm σ1) {k j : Nat} (hs : su k j) (hk : mk_b [(1, 1)] k j = true) : σm k j = σ k j := by
  rcases h1 with ⟨-, rfl⟩ | ⟨-, h⟩
  · exact mid_at hc okM_one hv hs hk
  · exact mid_at (M1 := [(1, 1)]) hc (okM_of h) hv hs hk
theorem sm_end {σ σ1 σm : ab_SG} {n : Int} (hc : cn σ) (hR : RQ9 σ) (h1 : k_end n σ σ1) (hv : vw σm σ1) : sp_m_end [(2, 93, 0), (0, 0, n)] σm (fun _ σ' => km_end n σm σ') := by
  obtain ⟨⟨r1, r2, r3, -⟩, -, -⟩ := hR
  have e2 : σm 93 2 = σ 93 2 := mid_end hc h1 hv (su93 (Or.inl rfl)) (by decide)
  exact ⟨n, rfl, ⟨by omega, by omega⟩, fun g => Or.inl ⟨g, rfl⟩, fun g => Or.inr ⟨g, rfl⟩⟩
theorem rr_end {σ σ1 σm σ2 : ab_SG} {n : Int} (hc : cn σ) (hR : RQ9 σ) (h1 : k_end n σ σ1) (hv : vw σm σ1) (h2 : km_end n σm σ2) : RQ9 σ2 := by
  have e2 : σm 93 2 = σ 93 2 := mid_end hc h1 hv (su93 (Or.inl rfl)) (by decide)
  obtain ⟨⟨r1, r2, r3, r4⟩, rB, rK⟩ := hR
  rcases h1 with ⟨g1, rfl⟩ | ⟨g1, g2⟩
  · rcases h2 with ⟨q1, rfl⟩ | ⟨q1, -⟩
    · have s1 : ab_okM [(1, 1)] σ (ab_ups σ 1 1 (fw_c n)) := okM_one
      have s2 : ab_okM [(93, 0), (93, 2)] σm (ab_ups (ab_ups σm 93 0 0) 93 2 (fw_c n)) := okM_two
      refine ⟨?_, rb_two hc s1 hv s2 (by decide) (by decide) rB, rk_two hc s1 hv s2 (by decide) (by decide) rK⟩
      have e11 : ab_ups (ab_ups σm 93 0 0) 93 2 (fw_c n) 1 1 = fw_c n := by
        rw [mk_at s2 (k := 1) (j := 1) (by decide), hv 1 1 su1, ab_ups_eq, fw_c_c]
      refine ⟨by rw [e11, ab_ups_eq], by rw [e11]; exact g1.1, by rw [e11]; omega, fun j hj => ?_⟩
      rw [e11] at hj
      have hj9 : j < 940 := by omega
      rw [two_row hc s1 hv s2 (k := 94) (by decide) (by decide) j (su94 hj9), ← r4 j (by omega)]
      refine tp_c σ _ j ?_
      rw [two_row hc s1 hv s2 (k := 2) (by decide) (by decide) j (su2 hj9)]
      exact (hc 2 j (su2 hj9)).symm
    · exact absurd (by rw [e2, ← r1]; exact g1) q1
  · rcases h2 with ⟨q1, -⟩ | ⟨q1, rfl⟩
    · exact absurd (by rw [r1, ← e2]; exact q1) g1
    · have s1 : ab_okM [] σ σ1 := okM_of g2
      have s2 : ab_okM [(93, 0)] σm (ab_ups σm 93 0 0) := okM_one
      exact ⟨ra_two hc s1 hv s2 (by decide) (by decide) ⟨r1, r2, r3, r4⟩, rb_two hc s1 hv s2 (by decide) (by decide) rB, rk_two hc s1 hv s2 (by decide) (by decide) rK⟩
/-! a studio is read -/
def k_studio (A : ab_SG) (σ σ' : ab_SG) : Prop := rl_is A ∧ rl_ok A ∧ (((pr_read A (tp_t σ) (σ 1 1).toNat).1.1 ≠ 0 ∧ ab_okM sf_M σ σ' ∧ σ' 1 1 = 0) ∨ ((pr_read A (tp_t σ) (σ 1 1).toNat).1.1 = 0 ∧ cs_ok σ σ' (pr_read A (tp_t σ) (σ 1 1).toNat).1.2.1))
def km_studio (A : ab_SG) (t : Nat → Int) (σ σ' : ab_SG) : Prop := ((pr_read A t (σ 93 2).toNat).1.1 ≠ 0 ∧ ab_okM mf_M σ σ' ∧ σ' 93 2 = 0 ∧ ly_is σ σ') ∨ ((pr_read A t (σ 93 2).toNat).1.1 = 0 ∧ ms_ok σ σ' (pr_read A t (σ 93 2).toNat).1.2.1)
theorem sk_studio {σ : ab_SG} (hl : rl_ok σ) (h : ra σ) : sp_studio [(2, 0, 0)] σ (fun _ σ' => ∃ A : ab_SG, k_studio A σ σ') :=
  ⟨rfl, ⟨h.2.1, h.2.2.1⟩, hl, fun A a b => ⟨fun g _ σ' q1 q2 _ => ⟨A, a, b, Or.inl ⟨g, q1, q2⟩⟩, fun g σ' q => ⟨A, a, b, Or.inr ⟨g, q⟩⟩⟩⟩
theorem mid_studio {A σ σ1 σm : ab_SG} (hc : cn σ) (h1 : k_studio A σ σ1) (hv : vw σm σ1) {k j : Nat} (hs : su k j) (hk : mk_b ss_M k j = true) (hk2 : mk_b sf_M k j = true) : σm k j = σ k j := by
  obtain ⟨-, -, ⟨-, g, -⟩ | ⟨-, g, -⟩⟩ := h1
  · exact mid_at hc g hv hs hk2
  · exact mid_at hc g hv hs hk
theorem row_studio {A σ σ1 σm : ab_SG} (hc : cn σ) (h1 : k_studio A σ σ1) (hv : vw σm σ1) {k : Nat} (hk : ss_M.all (fun q => !(q.1.beq k)) = true) (hk2 : sf_M.all (fun q => !(q.1.beq k)) = true) (j : Nat) (hs : su k j) : σm k j = σ k j := by
  obtain ⟨-, -, ⟨-, g, -⟩ | ⟨-, g, -⟩⟩ := h1
  · exact mid_row hc g hv hk2 j hs
  · exact mid_row hc g hv hk j hs
theorem ly_of {σ : ab_SG} (h : rb σ) : ly_ok σ := by
  rcases h.2.2.2 with ⟨a, -⟩ | ⟨a, -⟩
  · exact Or.inr a
  · exact Or.inl a
theorem sm_studio {A σ σ1 σm : ab_SG} (hc : cn σ) (hR : RQ9 σ) (h1 : k_studio A σ σ1) (hv : vw σm σ1) : sp_m_studio [(2, 93, 0)] σm (fun _ σ' => km_studio A (tp_t σ) σm σ') := by
  obtain ⟨⟨r1, r2, r3, r4⟩, rB, -⟩ := hR
  have e2 : σm 93 2 = σ 93 2 := mid_studio hc h1 hv (su93 (Or.inl rfl)) (by decide) (by decide)
  have e22 : σm 93 22 = σ 93 22 := mid_studio hc h1 hv (su93 (Or.inr rfl)) (by decide) (by decide)
  refine ⟨tp_t σ, A, rfl, ⟨by omega, by omega⟩, fun j hj => ?_, ?_, h1.1, h1.2.1, fun g _ σ' q1 _ q2 q3 => Or.inl ⟨g, q1, q2, q3⟩, fun g σ' q => Or.inr ⟨g, q⟩⟩
  · have hj9 : j < 940 := by omega
    refine ⟨?_, (tp_t_in σ j).1, (tp_t_in σ j).2⟩
    rw [row_studio hc h1 hv (k := 94) (by decide) (by decide) j (su94 hj9)]
    exact (r4 j (by omega)).symm
  · unfold ly_ok
    rw [e22]
    exact ly_of rB
theorem rr_studio {A σ σ1 σm σ2 σ3 : ab_SG} (hc : cn σ) (hR : RQ9 σ) (h1 : k_studio A σ σ1) (hv : vw σm σ1) (h2 : km_studio A (tp_t σ) σm σ2) (hw : vw σ3 σ2) : RQ9 σ3 := by
  have e2 : σm 93 2 = σ 93 2 := mid_studio hc h1 hv (su93 (Or.inl rfl)) (by decide) (by decide)
  obtain ⟨⟨r1, r2, r3, r4⟩, rB, rK⟩ := hR
  obtain ⟨-, -, h1⟩ := h1
  unfold km_studio at h2
  rw [e2, ← r1] at h2
  rcases h1 with ⟨g1, g2, g3⟩ | ⟨g1, g2⟩
  · rcases h2 with ⟨-, q2, q3, q4⟩ | ⟨q1, -⟩
    · refine RQ9_tr hw ⟨?_, rb_two_ly hc g2 hv q2 (by decide) (by decide) (by decide) q4 rB, rk_two hc g2 hv q2 (by decide) (by decide) rK⟩
      have e11 : σ2 1 1 = 0 := by
        rw [mk_at q2 (k := 1) (j := 1) (by decide), hv 1 1 su1, g3]
        exact fw_c_id (by decide) (by decide)
      exact ⟨by rw [e11, q3], by rw [e11]; exact Int.le_refl 0, by rw [e11]; decide, fun j hj => by rw [e11] at hj; omega⟩
    · exact absurd q1 g1
  · rcases h2 with ⟨q1, -⟩ | ⟨-, q2⟩
    · exact absurd g1 q1
    · obtain ⟨s1, s2, -, -, -, s6, -⟩ := g2
      obtain ⟨w1, -, w3, w4, -, -, -, w8, -⟩ := q2
      obtain ⟨c1, c2, c3, c4, -⟩ := s6
      obtain ⟨n1, n2, n3, n4, -⟩ := w8
      refine ⟨ra_tr hw ?_, ?_, rk_tr hw (rk_two hc s1 hv w1 (by decide) (by decide) rK)⟩
      · have e11 : σ2 1 1 = 0 := by
          rw [mk_at w1 (k := 1) (j := 1) (by decide), hv 1 1 su1, s2]
          exact fw_c_id (by decide) (by decide)
        exact ⟨by rw [e11, w3], by rw [e11]; exact Int.le_refl 0, by rw [e11]; decide, fun j hj => by rw [e11] at hj; omega⟩
      · have e : ∀ j : Nat, 11 ≤ j → j ≤ 14 → σ3 3 j = fw_c (σ1 3 j) := fun j a b => by
          rw [hw 3 j (su3 a b), mk_row w1 (k := 3) (by decide), hv 3 j (su3 a b), fw_c_c]
        refine ⟨?_, ?_, ?_, Or.inl ⟨?_, ?_⟩⟩
        · rw [e 11 (by omega) (by omega), hw 95 0 (su95 (by omega)), c1, n1]
        · rw [e 12 (by omega) (by omega), hw 95 1 (su95 (by omega)), c2, n2]
        · rw [e 13 (by omega) (by omega), hw 95 2 (su95 (by omega)), c3, n3]
        · rw [hw 93 22 (su93 (Or.inr rfl)), w4]
          exact fw_c_id (by decide) (by decide)
        · rw [e 14 (by omega) (by omega), hw 95 3 (su95 (by omega)), c4, n4]
/-! what is kept, what comes back -/
def k_image (k : Int) (σ σ' : ab_SG) : Prop := (k ≠ 0 ∧ k ≠ 1 ∧ σ' = σ) ∨ (k = 0 ∧ ab_okM (im_M 18) σ σ' ∧ cy_is σ σ' 3 18 ∧ σ' 18 16 = 1) ∨ (k = 1 ∧ ab_okM (im_M 33) σ σ' ∧ cy_is σ σ' 3 33 ∧ σ' 33 16 = 1)
def km_image (k : Int) (σ σ' : ab_SG) : Prop := (k ≠ 0 ∧ k ≠ 1 ∧ ab_okM lm_M σ σ' ∧ ly_is σ σ') ∨ ∃ (q : Nat) (σ1 : ab_SG), q < 2 ∧ k = (q : Int) ∧ ab_okM lm_M σ σ1 ∧ ly_is σ σ1 ∧ kp_is σ1 σ' q
theorem sk_image {σ : ab_SG} {k : Int} (hk : fw_c k = k) : sp_image [(2, 0, 0), (0, 0, k)] σ (fun _ σ' => k_image k σ σ') :=
  ⟨k, rfl, hk, fun a b => Or.inl ⟨a, b, rfl⟩, fun a σ' p q r => Or.inr (Or.inl ⟨a, p, q, r⟩), fun a σ' p q r => Or.inr (Or.inr ⟨a, p, q, r⟩)⟩
theorem mid_image {σ σ1 σm : ab_SG} {k : Int} (hc : cn σ) (h1 : k_image k σ σ1) (hv : vw σm σ1) {a j : Nat} (hs : su a j) (h18 : mk_b (im_M 18) a j = true) (h33 : mk_b (im_M 33) a j = true) : σm a j = σ a j := by
  rcases h1 with ⟨-, -, h⟩ | ⟨-, g, -⟩ | ⟨-, g, -⟩
  · exact mid_at (M1 := []) hc (okM_of h) hv hs rfl
  · exact mid_at hc g hv hs h18
  · exact mid_at hc g hv hs h33
theorem sm_image {σ σ1 σm : ab_SG} {k : Int} (hk : fw_c k = k) (hc : cn σ) (hR : RQ9 σ) (h1 : k_image k σ σ1) (hv : vw σm σ1) : sp_m_image [(2, 93, 0), (0, 0, k)] σm (fun _ σ' => km_image k σm σ') := by
  have e22 : σm 93 22 = σ 93 22 := mid_image hc h1 hv (su93 (Or.inr rfl)) (by decide) (by decide)
  refine ⟨k, rfl, hk, ?_, fun a b σ' p q => Or.inl ⟨a, b, p, q⟩, fun q a b s1 σ' p r t => Or.inr ⟨q, s1, a, b, p, r, t⟩⟩
  unfold ly_ok
  rw [e22]
  exact ly_of hR.2.1
theorem RQ9_keep {σ σ' : ab_SG} (h : ∀ k j : Nat, su k j → ¬ (k = 93 ∧ j = 23) → σ' k j = σ k j) (hR : RQ9 σ) : RQ9 σ' :=
  ⟨ra_fr (h 1 1 su1 (fun q => absurd q.1 (by decide))) (h 93 2 (su93 (Or.inl rfl)) (fun q => absurd q.2 (by decide))) (fun j a => by
    show fw_op 8 (σ' 2 j) 255 = fw_op 8 (σ 2 j) 255
    rw [h 2 j (su2 a) (fun q => absurd q.1 (by decide))]) (fun j a => h 94 j (su94 a) (fun q => absurd q.1 (by decide))) hR.1, rb_fr (fun j a b => h 3 j (su3 a b) (fun q => absurd q.1 (by decide))) (fun j a => h 95 j (su95 a) (fun q => absurd q.1 (by decide))) (h 93 22 (su93 (Or.inr rfl)) (fun q => absurd q.2 (by decide))) (fun j a => h 102 j (su102 a) (fun q => absurd q.1 (by decide))) hR.2.1, rk_fr (fun j a => h 18 j (su18 a) (fun q => absurd q.1 (by decide))) (fun j a => h 33 j (su33 a) (fun q => absurd q.1 (by decide))) (fun j a => h 97 j (su97 a) (fun q => absurd q.1 (by decide))) (fun j a => h 102 j (su102 a) (fun q => absurd q.1 (by decide))) hR.2.2⟩
/-- the tape is empty, a studio is laid -/
theorem RQ9_lay {σ σ' : ab_SG} (h : ∀ k j : Nat, su k j → k ≠ 1 → k ≠ 93 → ¬ (k = 95 ∧ j = 3) → σ' k j = σ k j) (h1 : σ' 1 1 = 0) (h2 : σ' 93 2 = 0) (h3 : ly_is σ σ') (hR : RQ9 σ) : RQ9 σ' :=
  ⟨⟨by rw [h1, h2], by rw [h1]; exact Int.le_refl 0, by rw [h1]; decide, fun j hj => by rw [h1] at hj; omega⟩, rb_ly (fun j a b => h 3 j (su3 a b) (by decide) (by decide) (fun q => absurd q.1 (by decide))) (fun j a => h 95 j (su95 (by omega)) (by decide) (by decide) (fun q => by omega)) h3 hR.2.1,
    rk_fr (fun j a => h 18 j (su18 a) (by decide) (by decide) (fun q => absurd q.1 (by decide))) (fun j a => h 33 j (su33 a) (by decide) (by decide) (fun q => absurd q.1 (by decide))) (fun j a => h 97 j (su97 a) (by decide) (by decide) (fun q => absurd q.1 (by decide))) (fun j a => h 102 j (su102 a) (by decide) (by decide) (fun q => absurd q.1 (by decide))) hR.2.2⟩
theorem okM_sub {M M' : ab_ML} {σ σ' : ab_SG} (h : ab_okM M σ σ') (hm : ∀ q ∈ M, q ∈ M') : ab_okM M' σ σ' := fun a b g => h a b (fun q hq => g q (hm q hq))
def rs (σ : ab_SG) (b q o : Nat) : Prop := σ b 16 = σ 102 q ∧ (σ 102 q = 0 ∨ σ 102 q = 1) ∧ (σ 102 q = 1 → σ b 11 = σ 97 o ∧ σ b 12 = σ 97 (o + 1) ∧ σ b 13 = σ 97 (o + 2) ∧ σ b 14 = σ 97 (o + 3))
theorem rs_fr {σ σ' : ab_SG} {b q o : Nat} (e1 : ∀ j : Nat, (11 ≤ j ∧ j ≤ 14 ∨ j = 16) → σ' b j = σ b j) (e2 : ∀ j : Nat, o ≤ j → j < o + 4 → σ' 97 j = σ 97 j) (e3 : σ' 102 q = σ 102 q) (h : rs σ b q o) : rs σ' b q o := by
  unfold rs
  rw [e1 11 (by omega), e1 12 (by omega), e1 13 (by omega), e1 14 (by omega), e1 16 (by omega), e2 o (by omega) (by omega), e2 (o + 1) (by omega) (by omega), e2 (o + 2) (by omega) (by omega), e2 (o + 3) (by omega) (by omega), e3]
  exact h
def km_M : ab_ML := [(93, 0), (93, 22), (95, 3), (97, 1000000), (101, 1000000), (102, 1000000)]
theorem km_two {σ σ1 σ2 : ab_SG} (h1 : ab_okM lm_M σ σ1) (h2 : ab_okM [(97, 1000000), (101, 1000000), (102, 1000000)] σ1 σ2) : ab_okM km_M σ σ2 := fw_okM_tr (okM_sub h1 (by decide)) h2 (by decide)
theorem kp_ly {σ σ1 σ2 : ab_SG} {q : Nat} (h1 : ly_is σ σ1) (h2 : kp_is σ1 σ2 q) : ly_is σ σ2 := by
  unfold ly_is
  rw [mk_at h2.1 (k := 93) (j := 22) (by decide), mk_at h2.1 (k := 95) (j := 3) (by decide)]
  exact h1
theorem im_new0 {σ σ1 σm s1 σ2 : ab_SG} (hc : cn σ) (hR : RQ9 σ) (g2 : ab_okM (im_M 18) σ σ1) (g3 : cy_is σ σ1 3 18) (g4 : σ1 18 16 = 1) (hv : vw σm σ1) (q1 : ab_okM lm_M σm s1) (q2 : ly_is σm s1) (q3 : kp_is s1 σ2 0) : RQ9 σ2 := by
  obtain ⟨rA, rB, rK⟩ := hR
  have w := km_two q1 q3.1
  have sB : rb s1 := rb_two_ly hc g2 hv q1 (by decide) (by decide) (by decide) q2 rB
  refine ⟨ra_two hc g2 hv w (by decide) (by decide) rA, rb_two_ly hc g2 hv w (by decide) (by decide) (by decide) (kp_ly q2 q3) rB, ?_⟩
  obtain ⟨-, p2, -, p4, -, p6, p7⟩ := q3
  obtain ⟨-, -, -, -, -, -, -, -, -, -, -, c11, c12, c13, c14, -⟩ := g3
  have e3 : ∀ j : Nat, 11 ≤ j → j ≤ 14 → s1 3 j = σ 3 j := fun j a b => two_row hc g2 hv q1 (k := 3) (by decide) (by decide) j (su3 a b)
  have eb : ∀ j : Nat, (11 ≤ j ∧ j ≤ 14 ∨ j = 16) → σ2 18 j = fw_c (σ1 18 j) := fun j a => (mk_row w (k := 18) (by decide) j).trans (hv 18 j (su18 a))
  have s3 : s1 95 3 = s1 3 14 := by
    rcases sB.2.2.2 with ⟨-, z⟩ | ⟨z, -⟩
    · exact z
    · rw [q2.1] at z
      exact absurd z (by decide)
  have new : rs σ2 18 0 0 := by
    refine ⟨?_, Or.inr p6, fun _ => ⟨?_, ?_, ?_, ?_⟩⟩
    · rw [eb 16 (Or.inr rfl), g4, p6]
      exact fw_c_id (by decide) (by decide)
    · have z : σ2 97 0 = fw_c (s1 95 0) := p2 0 (by decide)
      rw [z, eb 11 (by omega), c11, fw_c_c, ← sB.1, e3 11 (by omega) (by omega)]
    · have z : σ2 97 (0 + 1) = fw_c (s1 95 1) := p2 1 (by decide)
      rw [z, eb 12 (by omega), c12, fw_c_c, ← sB.2.1, e3 12 (by omega) (by omega)]
    · have z : σ2 97 (0 + 2) = fw_c (s1 95 2) := p2 2 (by decide)
      rw [z, eb 13 (by omega), c13, fw_c_c, ← sB.2.2.1, e3 13 (by omega) (by omega)]
    · have z : σ2 97 (0 + 3) = fw_c (s1 95 3) := p2 3 (by decide)
      rw [z, eb 14 (by omega), c14, fw_c_c, s3, e3 14 (by omega) (by omega)]
  have old : rs σ2 33 1 474 := by
    refine rs_fr (σ := σ) (fun j a => two_row hc g2 hv w (k := 33) (by decide) (by decide) j (su33 a)) (fun j a b => ?_) ?_ rK.2
    · rw [p4 j (by omega)]
      exact two_row hc g2 hv q1 (k := 97) (by decide) (by decide) j (su97 (by omega))
    · rw [p7 1 (by decide)]
      exact two_row hc g2 hv q1 (k := 102) (by decide) (by decide) 1 (su102 (by decide))
  exact ⟨new, old⟩
theorem im_new1 {σ σ1 σm s1 σ2 : ab_SG} (hc : cn σ) (hR : RQ9 σ) (g2 : ab_okM (im_M 33) σ σ1) (g3 : cy_is σ σ1 3 33) (g4 : σ1 33 16 = 1) (hv : vw σm σ1) (q1 : ab_okM lm_M σm s1) (q2 : ly_is σm s1) (q3 : kp_is s1 σ2 1) : RQ9 σ2 := by
  obtain ⟨rA, rB, rK⟩ := hR
  have w := km_two q1 q3.1
  have sB : rb s1 := rb_two_ly hc g2 hv q1 (by decide) (by decide) (by decide) q2 rB
  refine ⟨ra_two hc g2 hv w (by decide) (by decide) rA, rb_two_ly hc g2 hv w (by decide) (by decide) (by decide) (kp_ly q2 q3) rB, ?_⟩
  obtain ⟨-, p2, -, p4, -, p6, p7⟩ := q3
  obtain ⟨-, -, -, -, -, -, -, -, -, -, -, c11, c12, c13, c14, -⟩ := g3
  have e3 : ∀ j : Nat, 11 ≤ j → j ≤ 14 → s1 3 j = σ 3 j := fun j a b => two_row hc g2 hv q1 (k := 3) (by decide) (by decide) j (su3 a b)
  have eb : ∀ j : Nat, (11 ≤ j ∧ j ≤ 14 ∨ j = 16) → σ2 33 j = fw_c (σ1 33 j) := fun j a => (mk_row w (k := 33) (by decide) j).trans (hv 33 j (su33 a))
  have s3 : s1 95 3 = s1 3 14 := by
    rcases sB.2.2.2 with ⟨-, z⟩ | ⟨z, -⟩
    · exact z
    · rw [q2.1] at z
      exact absurd z (by decide)
  have new : rs σ2 33 1 474 := by
    refine ⟨?_, Or.inr p6, fun _ => ⟨?_, ?_, ?_, ?_⟩⟩
    · rw [eb 16 (Or.inr rfl), g4, p6]
      exact fw_c_id (by decide) (by decide)
    · have z : σ2 97 474 = fw_c (s1 95 0) := p2 0 (by decide)
      rw [z, eb 11 (by omega), c11, fw_c_c, ← sB.1, e3 11 (by omega) (by omega)]
    · have z : σ2 97 (474 + 1) = fw_c (s1 95 1) := p2 1 (by decide)
      rw [z, eb 12 (by omega), c12, fw_c_c, ← sB.2.1, e3 12 (by omega) (by omega)]
    · have z : σ2 97 (474 + 2) = fw_c (s1 95 2) := p2 2 (by decide)
      rw [z, eb 13 (by omega), c13, fw_c_c, ← sB.2.2.1, e3 13 (by omega) (by omega)]
    · have z : σ2 97 (474 + 3) = fw_c (s1 95 3) := p2 3 (by decide)
      rw [z, eb 14 (by omega), c14, fw_c_c, s3, e3 14 (by omega) (by omega)]
  have old : rs σ2 18 0 0 := by
    refine rs_fr (σ := σ) (fun j a => two_row hc g2 hv w (k := 18) (by decide) (by decide) j (su18 a)) (fun j a b => ?_) ?_ rK.1
    · rw [p4 j (by omega)]
      exact two_row hc g2 hv q1 (k := 97) (by decide) (by decide) j (su97 (by omega))
    · rw [p7 0 (by decide)]
      exact two_row hc g2 hv q1 (k := 102) (by decide) (by decide) 0 (su102 (by decide))
  exact ⟨old, new⟩
theorem re_new0 {σ σ1 σm σ2 : ab_SG} (hc : cn σ) (hR : RQ9 σ) (g1 : σ 102 0 = 1) (g2 : ab_okM re_M σ σ1) (g3 : cy_is σ σ1 18 3) (hv : vw σm σ1) (q3 : tb_is σm σ2 0) : RQ9 σ2 := by
  obtain ⟨rA, rB, rK⟩ := hR
  obtain ⟨w, p2, -, -⟩ := q3
  refine ⟨ra_two hc g2 hv w (by decide) (by decide) rA, ?_, rk_two hc g2 hv w (by decide) (by decide) rK⟩
  obtain ⟨-, -, -, -, -, -, -, -, -, -, -, c11, c12, c13, c14, -⟩ := g3
  obtain ⟨z11, z12, z13, z14⟩ := rK.1.2.2 g1
  have e3 : ∀ j : Nat, 11 ≤ j → j ≤ 14 → σ2 3 j = fw_c (σ1 3 j) := fun j a b => (mk_row w (k := 3) (by decide) j).trans (hv 3 j (su3 a b))
  have e9 : ∀ j : Nat, j < 4 → σ2 95 j = fw_c (σ 97 (0 + j)) := fun j a => by
    have z := p2 j (by omega)
    have e : 474 * 0 + j = 0 + j := by omega
    rw [e] at z
    rw [z, mid_row hc g2 hv (k := 97) (by decide) (0 + j) (su97 (by omega))]
  have e90 : σ2 95 0 = fw_c (σ 97 0) := e9 0 (by omega)
  have e91 : σ2 95 1 = fw_c (σ 97 1) := e9 1 (by omega)
  have e92 : σ2 95 2 = fw_c (σ 97 2) := e9 2 (by omega)
  have e93 : σ2 95 3 = fw_c (σ 97 3) := e9 3 (by omega)
  refine ⟨?_, ?_, ?_, Or.inl ⟨?_, ?_⟩⟩
  · rw [e3 11 (by omega) (by omega), e90, c11, fw_c_c, z11]
  · rw [e3 12 (by omega) (by omega), e91, c12, fw_c_c, z12]
  · rw [e3 13 (by omega) (by omega), e92, c13, fw_c_c, z13]
  · rw [two_at hc g2 hv w (su93 (Or.inr rfl)) (by decide) (by decide)]
    rcases rB.2.2.2 with ⟨a, -⟩ | ⟨-, -, a, b, -⟩
    · exact a
    · rw [a] at g1
      exact absurd g1 (by decide)
  · rw [e3 14 (by omega) (by omega), e93, c14, fw_c_c, z14]
theorem re_new1 {σ σ1 σm σ2 : ab_SG} (hc : cn σ) (hR : RQ9 σ) (g1 : σ 102 1 = 1) (g2 : ab_okM re_M σ σ1) (g3 : cy_is σ σ1 33 3) (hv : vw σm σ1) (q3 : tb_is σm σ2 1) : RQ9 σ2 := by
  obtain ⟨rA, rB, rK⟩ := hR
  obtain ⟨w, p2, -, -⟩ := q3
  refine ⟨ra_two hc g2 hv w (by decide) (by decide) rA, ?_, rk_two hc g2 hv w (by decide) (by decide) rK⟩
  obtain ⟨-, -, -, -, -, -, -, -, -, -, -, c11, c12, c13, c14, -⟩ := g3
  obtain ⟨z11, z12, z13, z14⟩ := rK.2.2.2 g1
  have e3 : ∀ j : Nat, 11 ≤ j → j ≤ 14 → σ2 3 j = fw_c (σ1 3 j) := fun j a b => (mk_row w (k := 3) (by decide) j).trans (hv 3 j (su3 a b))
  have e9 : ∀ j : Nat, j < 4 → σ2 95 j = fw_c (σ 97 (474 + j)) := fun j a => by
    have z := p2 j (by omega)
    have e : 474 * 1 + j = 474 + j := by omega
    rw [e] at z
    rw [z, mid_row hc g2 hv (k := 97) (by decide) (474 + j) (su97 (by omega))]
  have e90 : σ2 95 0 = fw_c (σ 97 474) := e9 0 (by omega)
  have e91 : σ2 95 1 = fw_c (σ 97 475) := e9 1 (by omega)
  have e92 : σ2 95 2 = fw_c (σ 97 476) := e9 2 (by omega)
  have e93 : σ2 95 3 = fw_c (σ 97 477) := e9 3 (by omega)
  refine ⟨?_, ?_, ?_, Or.inl ⟨?_, ?_⟩⟩
  · rw [e3 11 (by omega) (by omega), e90, c11, fw_c_c, z11]
  · rw [e3 12 (by omega) (by omega), e91, c12, fw_c_c, z12]
  · rw [e3 13 (by omega) (by omega), e92, c13, fw_c_c, z13]
  · rw [two_at hc g2 hv w (su93 (Or.inr rfl)) (by decide) (by decide)]
    rcases rB.2.2.2 with ⟨a, -⟩ | ⟨-, -, a, b, -⟩
    · exact a
    · rw [b] at g1
      exact absurd g1 (by decide)
  · rw [e3 14 (by omega) (by omega), e93, c14, fw_c_c, z14]
theorem rn_studio {A : ab_SG} {t : Nat → Int} {σm σ2 σ5 : ab_SG} (h0 : 0 ≤ σm 93 23) (h1 : σm 93 23 ≤ 3584) (h2 : km_studio A t σm σ2) (hw : vw σ5 σ2) : 0 ≤ σ5 93 23 ∧ σ5 93 23 ≤ σm 93 23 + 1 := by
  rw [hw 93 23 su9323]
  rcases h2 with ⟨-, q2, -⟩ | ⟨-, q2⟩
  · rw [mk_at q2 (k := 93) (j := 23) (by decide), fw_c_id (by omega) (by omega)]
    omega
  · obtain ⟨-, -, -, -, -, -, -, -, -, w, -⟩ := q2
    rw [w, fw_c_c, fw_c_id (by omega) (by omega)]
    omega
/-- names and sizes are numbers that fit -/
def sl_b (k a b : Nat) : Bool := match ab_rdT nn_T k a b with
  | some r => decide (-9223372036854775808 ≤ r.1 ∧ r.2 ≤ 9223372036854775807)
  | none => false
theorem sl_b_ok {k a b j : Nat} {σ : ab_SG} (h : sl_b k a b = true) (hR : ab_okR nn_T σ) (h1 : a ≤ j) (h2 : j ≤ b) : fw_d (σ k j) = σ k j := by
  unfold sl_b at h
  cases hr : ab_rdT nn_T k a b with
  | none => rw [hr] at h; cases h
  | some r =>
    rw [hr] at h
    have h3 : -9223372036854775808 ≤ r.1 ∧ r.2 ≤ 9223372036854775807 := of_decide_eq_true h
    have h4 := ab_rdT_ok hR hr h1 h2
    exact fw_d_id (by omega) (by omega)
theorem rl_of {σ : ab_SG} (h : ab_okR nn_T σ) : rl_ok σ :=
  ⟨fun j a => sl_b_ok (k := 57) (a := 0) (b := 8) (by decide +kernel) h (by omega) (by omega), fun j a => sl_b_ok (k := 58) (a := 0) (b := 5) (by decide +kernel) h (by omega) (by omega), fun j a => sl_b_ok (k := 59) (a := 0) (b := 4) (by decide +kernel) h (by omega) (by omega), fun j a => ab_rdT_ok (r := (0, 9)) (a := 0) (b := 8) h (by decide +kernel) (by omega) (by omega)⟩
theorem q_of {k : Int} {q : Nat} (hq : q < 2) (h : k = (q : Int)) : (k = 0 ∧ q = 0) ∨ (k = 1 ∧ q = 1) := by omega
theorem rr_image {σ σ1 σm σ2 : ab_SG} {k : Int} (hc : cn σ) (hR : RQ9 σ) (h1 : k_image k σ σ1) (hv : vw σm σ1) (h2 : km_image k σm σ2) : RQ9 σ2 := by
  rcases h1 with ⟨a, b, h⟩ | ⟨a, g2, g3, g4⟩ | ⟨a, g2, g3, g4⟩
  · have s1 : ab_okM [] σ σ1 := okM_of h
    rcases h2 with ⟨-, -, q2, q3⟩ | ⟨q, t1, hq, hk, -⟩
    · exact ⟨ra_two hc s1 hv q2 (by decide) (by decide) hR.1, rb_two_ly hc s1 hv q2 (by decide) (by decide) (by decide) q3 hR.2.1, rk_two hc s1 hv q2 (by decide) (by decide) hR.2.2⟩
    · rcases q_of hq hk with ⟨z, -⟩ | ⟨z, -⟩
      · exact absurd z a
      · exact absurd z b
  · rcases h2 with ⟨z, -⟩ | ⟨q, t1, hq, hk, q1, q2, q3⟩
    · exact absurd a z
    · rcases q_of hq hk with ⟨-, rfl⟩ | ⟨z, -⟩
      · exact im_new0 hc hR g2 g3 g4 hv q1 q2 q3
      · omega
  · rcases h2 with ⟨-, z, -⟩ | ⟨q, t1, hq, hk, q1, q2, q3⟩
    · exact absurd a z
    · rcases q_of hq hk with ⟨z, -⟩ | ⟨-, rfl⟩
      · omega
      · exact im_new1 hc hR g2 g3 g4 hv q1 q2 q3
def k_restore (k : Int) (σ σ' : ab_SG) : Prop := (((k ≠ 0 ∧ k ≠ 1) ∨ (k = 0 ∧ σ 18 16 = 0) ∨ (k = 1 ∧ σ 33 16 = 0)) ∧ σ' = σ) ∨ (k = 0 ∧ σ 18 16 = 1 ∧ ab_okM re_M σ σ' ∧ cy_is σ σ' 18 3 ∧ σ' 85 1 = 0) ∨ (k = 1 ∧ σ 33 16 = 1 ∧ ab_okM re_M σ σ' ∧ cy_is σ σ' 33 3 ∧ σ' 85 1 = 0)
def km_restore (k : Int) (σ σ' : ab_SG) : Prop := (((k ≠ 0 ∧ k ≠ 1) ∨ (∃ q : Nat, q < 2 ∧ k = (q : Int) ∧ σ 102 q = 0)) ∧ σ' = ab_ups σ 93 0 0) ∨ (∃ q : Nat, q < 2 ∧ k = (q : Int) ∧ σ 102 q = 1 ∧ tb_is σ σ' q)
theorem sk_restore {σ : ab_SG} {k : Int} (hk : fw_c k = k) (hR : rk σ) : sp_restore [(2, 0, 0), (0, 0, k)] σ (fun _ σ' => k_restore k σ σ') :=
  ⟨k, rfl, hk, by rw [hR.1.1]; exact hR.1.2.1, by rw [hR.2.1]; exact hR.2.2.1, fun a b => Or.inl ⟨Or.inl ⟨a, b⟩, rfl⟩, fun a b => Or.inl ⟨Or.inr (Or.inl ⟨a, b⟩), rfl⟩, fun a b => Or.inl ⟨Or.inr (Or.inr ⟨a, b⟩), rfl⟩, fun a b σ' p r t => Or.inr (Or.inl ⟨a, b, p, r, t⟩), fun a b σ' p r t => Or.inr (Or.inr ⟨a, b, p, r, t⟩)⟩
theorem mid_restore {σ σ1 σm : ab_SG} {k : Int} (hc : cn σ) (h1 : k_restore k σ σ1) (hv : vw σm σ1) {a : Nat} (ha : re_M.all (fun q => !(q.1.beq a)) = true) (j : Nat) (hs : su a j) : σm a j = σ a j := by
  rcases h1 with ⟨-, h⟩ | ⟨-, -, g, -⟩ | ⟨-, -, g, -⟩
  · exact mid_row (M1 := []) hc (okM_of h) hv rfl j hs
  · exact mid_row hc g hv ha j hs
  · exact mid_row hc g hv ha j hs
theorem sm_restore {σ σ1 σm : ab_SG} {k : Int} (hk : fw_c k = k) (hc : cn σ) (hR : rk σ) (h1 : k_restore k σ σ1) (hv : vw σm σ1) : sp_m_restore [(2, 93, 0), (0, 0, k)] σm (fun _ σ' => km_restore k σm σ') := by
  refine ⟨k, rfl, hk, fun r hr => ?_, fun a b => Or.inl ⟨Or.inl ⟨a, b⟩, rfl⟩, fun q a b c => Or.inl ⟨Or.inr ⟨q, a, b, c⟩, rfl⟩, fun q a b c σ' p => Or.inr ⟨q, a, b, c, p⟩⟩
  rw [mid_restore hc h1 hv (a := 102) (by decide) r (su102 hr)]
  rcases (show r = 0 ∨ r = 1 by omega) with rfl | rfl
  · exact hR.1.2.1
  · exact hR.2.2.1
theorem rr_restore {σ σ1 σm σ2 : ab_SG} {k : Int} (hc : cn σ) (hR : RQ9 σ) (h1 : k_restore k σ σ1) (hv : vw σm σ1) (h2 : km_restore k σm σ2) : RQ9 σ2 := by
  have e : ∀ r : Nat, r < 2 → σm 102 r = σ 102 r := fun r hr => mid_restore hc h1 hv (a := 102) (by decide) r (su102 hr)
  have f0 : σ 18 16 = σ 102 0 := hR.2.2.1.1
  have f1 : σ 33 16 = σ 102 1 := hR.2.2.2.1
  have e0 := e 0 (by decide)
  have e1 := e 1 (by decide)
  rcases h1 with ⟨a, h⟩ | ⟨a, b, g2, g3, -⟩ | ⟨a, b, g2, g3, -⟩
  · have s1 : ab_okM [] σ σ1 := okM_of h
    rcases h2 with ⟨-, rfl⟩ | ⟨q, hq, hk, q1, -⟩
    · have s2 : ab_okM [(93, 0)] σm (ab_ups σm 93 0 0) := okM_one
      exact ⟨ra_two hc s1 hv s2 (by decide) (by decide) hR.1, rb_two hc s1 hv s2 (by decide) (by decide) hR.2.1, rk_two hc s1 hv s2 (by decide) (by decide) hR.2.2⟩
    · rcases q_of hq hk with ⟨z, rfl⟩ | ⟨z, rfl⟩
      · rcases a with a | a | a <;> omega
      · rcases a with a | a | a <;> omega
  · rcases h2 with ⟨q1 | ⟨q, hq, hk, q1⟩, -⟩ | ⟨q, hq, hk, q1, q2⟩
    · omega
    · rcases q_of hq hk with ⟨z, rfl⟩ | ⟨z, rfl⟩ <;> omega
    · rcases q_of hq hk with ⟨z, rfl⟩ | ⟨z, rfl⟩
      · exact re_new0 hc hR (by omega) g2 g3 hv q2
      · omega
  · rcases h2 with ⟨q1 | ⟨q, hq, hk, q1⟩, -⟩ | ⟨q, hq, hk, q1, q2⟩
    · omega
    · rcases q_of hq hk with ⟨z, rfl⟩ | ⟨z, rfl⟩ <;> omega
    · rcases q_of hq hk with ⟨z, rfl⟩ | ⟨z, rfl⟩
      · omega
      · exact re_new1 hc hR (by omega) g2 g3 hv q2
/-! how many there are -/
theorem sk_count {σ : ab_SG} {w : Int} : sp_count [(2, 0, 0), (0, 0, w)] σ (fun rv σ' => σ' = σ ∧ rv = some (0, 0, cq_v (σ 3 11) (σ 3 12) (σ 3 13) (σ 3 14) (σ 1 1) (fw_c w))) := ⟨w, rfl, rfl, rfl⟩
theorem sm_count {σ σm : ab_SG} {w : Int} (hc : cn σ) (hR : RQ9 σ) (hv : vw σm σ) : sp_m_count [(2, 93, 0), (0, 0, w)] σm (fun rv σ' => ab_okM lm_M σm σ' ∧ ly_is σm σ' ∧ rv = some (0, 0, cq_v (σ' 95 0) (σ' 95 1) (σ' 95 2) (σ' 95 3) (σ' 93 2) (fw_c w))) :=
  ⟨w, rfl, ly_of (rb_tr hv hR.2.1), fun σ' a b => ⟨a, b, rfl⟩⟩
theorem rr_count {σ σm σ2 : ab_SG} (hc : cn σ) (hR : RQ9 σ) (hv : vw σm σ) (h1 : ab_okM lm_M σm σ2) (h2 : ly_is σm σ2) : RQ9 σ2 ∧ ∀ w : Int, cq_v (σ2 95 0) (σ2 95 1) (σ2 95 2) (σ2 95 3) (σ2 93 2) w = cq_v (σ 3 11) (σ 3 12) (σ 3 13) (σ 3 14) (σ 1 1) w := by
  have s1 := okM_self [] σ
  have hB : rb σ2 := rb_two_ly hc s1 hv h1 (by decide) (by decide) (by decide) h2 hR.2.1
  refine ⟨⟨ra_two hc s1 hv h1 (by decide) (by decide) hR.1, hB, rk_two hc s1 hv h1 (by decide) (by decide) hR.2.2⟩, fun w => ?_⟩
  have e3 : ∀ j : Nat, 11 ≤ j → j ≤ 14 → σ2 3 j = σ 3 j := fun j a b => two_row hc s1 hv h1 (k := 3) (by decide) (by decide) j (su3 a b)
  have e4 : σ2 95 3 = σ2 3 14 := by
    rcases hB.2.2.2 with ⟨-, z⟩ | ⟨z, -⟩
    · exact z
    · rw [h2.1] at z
      exact absurd z (by decide)
  have e2 : σ2 93 2 = σ 93 2 := two_at hc s1 hv h1 (su93 (Or.inl rfl)) (by decide) (by decide)
  rw [← hB.1, ← hB.2.1, ← hB.2.2.1, e4, e2, ← hR.1.1, e3 11 (by omega) (by omega), e3 12 (by omega) (by omega), e3 13 (by omega) (by omega), e3 14 (by omega) (by omega)]
end
section
/-! what teaches and takes back: the reference -/
def m_pe (σ : ab_SG) (p : Int) : Bool := decide (0 ≤ fw_c p) && decide (fw_c p < fw_c (σ 95 2))
def m_tu (σ : ab_SG) (x : Int) : Bool := decide (0 ≤ fw_c x) && decide (fw_c x < fw_c (σ 95 0))
def m_b (b : Bool) : Int := if b = true then 1 else 0
theorem m_pe_t {σ : ab_SG} {p : Int} (h : m_pe σ p = true) : 0 ≤ fw_c p ∧ fw_c p < fw_c (σ 95 2) := by
  unfold m_pe at h
  rw [Bool.and_eq_true] at h
  exact ⟨of_decide_eq_true h.1, of_decide_eq_true h.2⟩
theorem m_tu_t {σ : ab_SG} {p : Int} (h : m_tu σ p = true) : 0 ≤ fw_c p ∧ fw_c p < fw_c (σ 95 0) := by
  unfold m_tu at h
  rw [Bool.and_eq_true] at h
  exact ⟨of_decide_eq_true h.1, of_decide_eq_true h.2⟩
theorem m_b_ne {b : Bool} (h : fw_c (m_b b) ≠ 0) : b = true := by
  cases b with
  | true => rfl
  | false => exact absurd fw_c0 h
theorem m_b_eq {b : Bool} (h : fw_c (m_b b) = 0) : b = false := by
  cases b with
  | false => rfl
  | true => exact absurd (fw_c1.symm.trans h) (by decide)
theorem m_b1 {a b : Prop} [Decidable a] [Decidable b] (h1 : a) (h2 : b) : m_b (decide a && decide b) = 1 := by
  rw [decide_eq_true h1, decide_eq_true h2]
  rfl
theorem m_b0 {a b : Prop} [Decidable a] [Decidable b] (h : ¬ (a ∧ b)) : m_b (decide a && decide b) = 0 := by
  by_cases h1 : a
  · rw [decide_eq_true h1, decide_eq_false (fun h2 => h ⟨h1, h2⟩)]
    rfl
  · rw [decide_eq_false h1]
    rfl
def sp_m_isPerson : fw_SP := fun as σ K => ∃ p : Int, as = [(2, 93, 0), (0, 0, p)] ∧ K (some (0, 0, m_b (m_pe σ p))) σ
def sp_m_isTune : fw_SP := fun as σ K => ∃ p : Int, as = [(2, 93, 0), (0, 0, p)] ∧ K (some (0, 0, m_b (m_tu σ p))) σ
def sp_m_known : fw_SP := fun as σ K => ∃ p x : Nat, as = [(2, 93, 0), (0, 0, (p : Int)), (0, 0, (x : Int))] ∧ p < 5 ∧ x < 9 ∧ K (some (0, 0, σ 95 (182 + 9 * p + x))) σ
def sn_M : ab_ML := [(93, 24), (98, 1000000)]
/-- what may be taken back is kept once more -/
def sn_is (σ σ' : ab_SG) : Prop := ab_okM sn_M σ σ' ∧ (∀ n : Nat, σ 93 24 = (n : Int) → n < 8 → σ' 93 24 = (n : Int) + 1 ∧ (∀ j : Nat, j < 50 * n → σ' 98 j = σ 98 j) ∧ ∀ j : Nat, j < 50 → σ' 98 (50 * n + j) = fw_c (σ 95 (182 + j))) ∧
  (σ 93 24 = 8 → σ' 93 24 = 8 ∧ (∀ j : Nat, j < 350 → σ' 98 j = fw_c (σ 98 (j + 50))) ∧ ∀ j : Nat, j < 50 → σ' 98 (350 + j) = fw_c (σ 95 (182 + j)))
def sp_m_snap : fw_SP := fun as σ K => as = [(2, 93, 0)] ∧ (0 ≤ σ 93 24 ∧ σ 93 24 ≤ 8) ∧ ∀ σ' : ab_SG, sn_is σ σ' → K none σ'
def un_M : ab_ML := [(93, 0), (93, 24), (95, 1000000)]
def sp_m_undo : fw_SP := fun as σ K => as = [(2, 93, 0)] ∧ (0 ≤ σ 93 24 ∧ σ 93 24 ≤ 8) ∧ (σ 93 24 = 0 → K (some (0, 0, -1)) (ab_ups σ 93 0 0)) ∧
  (∀ n : Nat, σ 93 24 = (n : Int) + 1 → ∀ σ' : ab_SG, ab_okM un_M σ σ' → σ' 93 24 = (n : Int) → (∀ j : Nat, (j < 182 ∨ 232 ≤ j) → σ' 95 j = σ 95 j) → (∀ j : Nat, j < 50 → σ' 95 (182 + j) = fw_c (σ 98 (50 * n + j))) → K (some (0, 0, (n : Int))) σ')
/-- the persons and the tunes are few -/
def m_fw (σ : ab_SG) : Prop := (0 ≤ σ 95 0 ∧ σ 95 0 ≤ 9) ∧ (0 ≤ σ 95 2 ∧ σ 95 2 ≤ 5) ∧ (0 ≤ σ 93 24 ∧ σ 93 24 ≤ 8)
/-- one number is put behind a kept state -/
def te_is (σ σ' : ab_SG) (q : Nat) (v : Int) : Prop := ∃ σ1 : ab_SG, sn_is (ab_ups σ 93 0 0) σ1 ∧ σ' = ab_ups σ1 95 q (fw_c v)
def sp_m_teach : fw_SP := fun as σ K => ∃ p x k : Int, as = [(2, 93, 0), (0, 0, p), (0, 0, x), (0, 0, k)] ∧ (fw_c p = p ∧ fw_c x = x ∧ fw_c k = k) ∧ m_fw σ ∧
  (¬ (m_pe σ p = true ∧ m_tu σ x = true ∧ (0 ≤ k ∧ k ≤ 9)) → K (some (0, 0, 0)) (ab_ups σ 93 0 0)) ∧
  (∀ p' x' : Nat, p = (p' : Int) → x = (x' : Int) → m_pe σ p = true → m_tu σ x = true → (0 ≤ k ∧ k ≤ 9) → (fw_c (σ 95 (182 + 9 * p' + x')) = k → K (some (0, 0, 0)) (ab_ups σ 93 0 0)) ∧ (fw_c (σ 95 (182 + 9 * p' + x')) ≠ k → ∀ σ' : ab_SG, te_is σ σ' (182 + 9 * p' + x') k → K (some (0, 0, 1)) σ'))
def sp_m_dares : fw_SP := fun as σ K => ∃ p k : Int, as = [(2, 93, 0), (0, 0, p), (0, 0, k)] ∧ (fw_c p = p ∧ fw_c k = k) ∧ m_fw σ ∧
  (¬ (m_pe σ p = true ∧ (0 ≤ k ∧ k ≤ 9)) → K (some (0, 0, 0)) (ab_ups σ 93 0 0)) ∧
  (∀ p' : Nat, p = (p' : Int) → m_pe σ p = true → (0 ≤ k ∧ k ≤ 9) → (fw_c (σ 95 (227 + p')) = k → K (some (0, 0, 0)) (ab_ups σ 93 0 0)) ∧ (fw_c (σ 95 (227 + p')) ≠ k → ∀ σ' : ab_SG, te_is σ σ' (227 + p') k → K (some (0, 0, 1)) σ'))
theorem m_pe_ups {σ : ab_SG} {v p : Int} : m_pe (ab_ups σ 93 0 v) p = m_pe σ p := by
  unfold m_pe
  rw [ab_ups_ne (fun z => absurd z.1 (by decide))]
theorem m_tu_ups {σ : ab_SG} {v p : Int} : m_tu (ab_ups σ 93 0 v) p = m_tu σ p := by
  unfold m_tu
  rw [ab_ups_ne (fun z => absurd z.1 (by decide))]
abbrev fk_m_isPerson : List fw_CR := []
abbrev st_m_isPerson : fw_K → fw_KR → fw_K := fw_st vwCl nn_sh nn_kd fw_kv fw_wc (nn_KI20.map (fun x => x.1)) (nn_KJ20.map (fun x => x.1)) (nn_PF20.map (fun x => x.1)) (nn_PS20.map (fun x => x.1)) fk_m_isPerson 0 nn_dt249 2 1
theorem fs_m_isPerson_0 {G : fw_K} {R : fw_KR} (hG : fw_cls st_m_isPerson R G) {p : Int} {σ : ab_SG} (h : (fw_c p < 0 → (0 ≤ fw_c 0 ∧ fw_c 0 ≤ 1) ∧ R (some (0, 0, 0)) σ) ∧ (0 ≤ fw_c p → (0 ≤ fw_c 2 ∧ fw_c 2 < ((474 : Nat) : Int)) ∧ ((fw_c (σ 95 (fw_c 2).toNat) ≤ fw_c p → (0 ≤ fw_c 0 ∧ fw_c 0 ≤ 1) ∧ R (some (0, 0, 0)) σ) ∧ (fw_c p < fw_c (σ 95 (fw_c 2).toNat) → (0 ≤ fw_c 1 ∧ fw_c 1 ≤ 1) ∧ R (some (0, 0, 1)) σ)))) : G 0 [some (2, 93, 0), some (0, 0, p)] [] σ := fw_on hG [] 200 h
abbrev fk_m_isTune : List fw_CR := [(261, 0, true, 11, 0, sp_m_tunes)]
abbrev st_m_isTune : fw_K → fw_KR → fw_K := fw_st vwCl nn_sh nn_kd fw_kv fw_wc (nn_KI20.map (fun x => x.1)) (nn_KJ20.map (fun x => x.1)) (nn_PF20.map (fun x => x.1)) (nn_PS20.map (fun x => x.1)) fk_m_isTune 1 nn_dt239 2 1
theorem fs_m_isTune_0 {G : fw_K} {R : fw_KR} (hG : fw_cls st_m_isTune R G) {x : Int} {σ : ab_SG} (h : (fw_c x < 0 → (0 ≤ fw_c 0 ∧ fw_c 0 ≤ 1) ∧ R (some (0, 0, 0)) σ) ∧ (0 ≤ fw_c x → sp_m_tunes [(2, 93, 0)] σ (fun rv σ2 => G 9 [some (2, 93, 0), some (0, 0, x)] (rv.toList ++ [(0, 0, x)]) σ2))) : G 0 [some (2, 93, 0), some (0, 0, x)] [] σ := fw_on hG [9] 200 h
theorem fs_m_isTune_9 {G : fw_K} {R : fw_KR} (hG : fw_cls st_m_isTune R G) {a1 b0 b1 : Int} {σ : ab_SG} (h : (fw_c b0 ≤ fw_c b1 → (0 ≤ fw_c 0 ∧ fw_c 0 ≤ 1) ∧ R (some (0, 0, 0)) σ) ∧ (fw_c b1 < fw_c b0 → (0 ≤ fw_c 1 ∧ fw_c 1 ≤ 1) ∧ R (some (0, 0, 1)) σ)) : G 9 [some (2, 93, 0), some (0, 0, a1)] [(0, 0, b0), (0, 0, b1)] σ := fw_on hG [9] 200 h
abbrev fk_m_known : List fw_CR := []
abbrev st_m_known : fw_K → fw_KR → fw_K := fw_st vwCl nn_sh nn_kd fw_kv fw_wc (nn_KI20.map (fun x => x.1)) (nn_KJ20.map (fun x => x.1)) (nn_PF20.map (fun x => x.1)) (nn_PS20.map (fun x => x.1)) fk_m_known 0 nn_dt250 3 0
theorem fs_m_known_0 {G : fw_K} {R : fw_KR} (hG : fw_cls st_m_known R G) {p x : Int} {σ : ab_SG} (h : (0 ≤ fw_c ((182 + (9 * p)) + x) ∧ fw_c ((182 + (9 * p)) + x) < ((474 : Nat) : Int)) ∧ (R (some (0, 0, σ 95 (fw_c ((182 + (9 * p)) + x)).toNat)) σ)) : G 0 [some (2, 93, 0), some (0, 0, p), some (0, 0, x)] [] σ := fw_on hG [] 200 h
abbrev fk_m_snap : List fw_CR := []
abbrev st_m_snap : fw_K → fw_KR → fw_K := fw_st vwCl nn_sh nn_kd fw_kv fw_wc (nn_KI20.map (fun x => x.1)) (nn_KJ20.map (fun x => x.1)) (nn_PF20.map (fun x => x.1)) (nn_PS20.map (fun x => x.1)) fk_m_snap 0 nn_dt316 2 4
theorem fs_m_snap_0 {G : fw_K} {R : fw_KR} (hG : fw_cls st_m_snap R G) {σ : ab_SG} (h : (fw_c (σ 93 24) ≠ fw_c 8 → G 50 [some (2, 93, 0), none] [] σ) ∧ (fw_c (σ 93 24) = fw_c 8 → G 12 [some (2, 93, 0), some (0, 0, 50)] [] σ)) : G 0 [some (2, 93, 0), none] [] σ := fw_on hG [12, 50, 52] 200 h
theorem fs_m_snap_50 {G : fw_K} {R : fw_KR} (hG : fw_cls st_m_snap R G) {σ : ab_SG} (h : G 52 [some (2, 93, 0), some (0, 0, 0)] [] σ) : G 50 [some (2, 93, 0), none] [] σ := fw_on hG [12, 50, 52] 200 h
theorem fs_m_snap_12 {G : fw_K} {R : fw_KR} (hG : fw_cls st_m_snap R G) {a1 : Int} {σ : ab_SG} (h : (fw_c 400 ≤ fw_c a1 → G 50 [some (2, 93, 0), some (0, 0, a1)] [] (ab_ups σ 93 24 (fw_c ((σ 93 24) - 1)))) ∧ (fw_c a1 < fw_c 400 → (0 ≤ fw_c a1 ∧ fw_c a1 < ((400 : Nat) : Int)) ∧ ((0 ≤ fw_c (a1 - 50) ∧ fw_c (a1 - 50) < ((400 : Nat) : Int)) ∧ True ∧ (G 12 [some (2, 93, 0), some (0, 0, a1 + 1)] [] (ab_ups σ 98 (fw_c (a1 - 50)).toNat (fw_c (σ 98 (fw_c a1).toNat))))))) : G 12 [some (2, 93, 0), some (0, 0, a1)] [] σ := fw_on hG [12, 50, 52] 200 h
theorem fs_m_snap_52 {G : fw_K} {R : fw_KR} (hG : fw_cls st_m_snap R G) {a1 : Int} {σ : ab_SG} (h : (fw_c 50 ≤ fw_c a1 → R none (ab_ups σ 93 24 (fw_c ((σ 93 24) + 1)))) ∧ (fw_c a1 < fw_c 50 → (0 ≤ fw_c (182 + a1) ∧ fw_c (182 + a1) < ((474 : Nat) : Int)) ∧ ((0 ≤ fw_c ((50 * (σ 93 24)) + a1) ∧ fw_c ((50 * (σ 93 24)) + a1) < ((400 : Nat) : Int)) ∧ True ∧ (G 52 [some (2, 93, 0), some (0, 0, a1 + 1)] [] (ab_ups σ 98 (fw_c ((50 * (σ 93 24)) + a1)).toNat (fw_c (σ 95 (fw_c (182 + a1)).toNat))))))) : G 52 [some (2, 93, 0), some (0, 0, a1)] [] σ := fw_on hG [12, 50, 52] 200 h
theorem fs_m_snap_50a {G : fw_K} {R : fw_KR} (hG : fw_cls st_m_snap R G) {a1 : Int} {σ : ab_SG} (h : G 52 [some (2, 93, 0), some (0, 0, 0)] [] σ) : G 50 [some (2, 93, 0), some (0, 0, a1)] [] σ := fw_on hG [12, 50, 52] 200 h
abbrev fk_m_undo : List fw_CR := []
abbrev st_m_undo : fw_K → fw_KR → fw_K := fw_st vwCl nn_sh nn_kd fw_kv fw_wc (nn_KI20.map (fun x => x.1)) (nn_KJ20.map (fun x => x.1)) (nn_PF20.map (fun x => x.1)) (nn_PS20.map (fun x => x.1)) fk_m_undo 0 nn_dt314 2 0
theorem fs_m_undo_0 {G : fw_K} {R : fw_KR} (hG : fw_cls st_m_undo R G) {σ : ab_SG} (h : (fw_c (σ 93 24) ≠ 0 → G 26 [some (2, 93, 0), some (0, 0, 0)] [] (ab_ups (ab_ups σ 93 0 (fw_c 0)) 93 24 (fw_c ((σ 93 24) - 1)))) ∧ (fw_c (σ 93 24) = 0 → R (some (0, 0, (-1))) (ab_ups σ 93 0 (fw_c 0)))) : G 0 [some (2, 93, 0), none] [] σ := fw_on hG [26] 200 h
theorem fs_m_undo_26 {G : fw_K} {R : fw_KR} (hG : fw_cls st_m_undo R G) {a1 : Int} {σ : ab_SG} (h : (fw_c 50 ≤ fw_c a1 → R (some (0, 0, σ 93 24)) σ) ∧ (fw_c a1 < fw_c 50 → (0 ≤ fw_c ((50 * (σ 93 24)) + a1) ∧ fw_c ((50 * (σ 93 24)) + a1) < ((400 : Nat) : Int)) ∧ ((0 ≤ fw_c (182 + a1) ∧ fw_c (182 + a1) < ((474 : Nat) : Int)) ∧ True ∧ (G 26 [some (2, 93, 0), some (0, 0, a1 + 1)] [] (ab_ups σ 95 (fw_c (182 + a1)).toNat (fw_c (σ 98 (fw_c ((50 * (σ 93 24)) + a1)).toNat))))))) : G 26 [some (2, 93, 0), some (0, 0, a1)] [] σ := fw_on hG [26] 200 h
abbrev fk_m_teach : List fw_CR := [(171, 3, false, 0, 0, sp_m_isIn), (267, 1, true, 11, 1, sp_m_isTune), (281, 1, true, 11, 0, sp_m_isPerson), (284, 2, true, 11, 0, sp_m_known), (411, 0, true, 11, 0, sp_m_snap)]
abbrev st_m_teach : fw_K → fw_KR → fw_K := fw_st vwCl nn_sh nn_kd fw_kv fw_wc (nn_KI20.map (fun x => x.1)) (nn_KJ20.map (fun x => x.1)) (nn_PF20.map (fun x => x.1)) (nn_PS20.map (fun x => x.1)) fk_m_teach 2 nn_dt315 4 1
theorem fs_m_teach_0 {G : fw_K} {R : fw_KR} (hG : fw_cls st_m_teach R G) {p x k : Int} {σ : ab_SG} (h : sp_m_isPerson [(2, 93, 0), (0, 0, p)] (ab_ups σ 93 0 (fw_c 0)) (fun rv σ2 => G 10 [some (2, 93, 0), some (0, 0, p), some (0, 0, x), some (0, 0, k)] (rv.toList ++ []) σ2)) : G 0 [some (2, 93, 0), some (0, 0, p), some (0, 0, x), some (0, 0, k)] [] σ := fw_on hG [10, 18, 28, 37, 47] 200 h
theorem fs_m_teach_10 {G : fw_K} {R : fw_KR} (hG : fw_cls st_m_teach R G) {a1 a2 a3 b0 : Int} {σ : ab_SG} (h : (fw_c b0 = 0 → (0 ≤ fw_c 0 ∧ fw_c 0 ≤ 1) ∧ R (some (0, 0, 0)) σ) ∧ (fw_c b0 ≠ 0 → sp_m_isTune [(2, 93, 0), (0, 0, a2)] σ (fun rv σ2 => G 18 [some (2, 93, 0), some (0, 0, a1), some (0, 0, a2), some (0, 0, a3)] (rv.toList ++ []) σ2))) : G 10 [some (2, 93, 0), some (0, 0, a1), some (0, 0, a2), some (0, 0, a3)] [(0, 0, b0)] σ := fw_on hG [10, 18, 28, 37, 47] 200 h
theorem fs_m_teach_18 {G : fw_K} {R : fw_KR} (hG : fw_cls st_m_teach R G) {a1 a2 a3 b0 : Int} {σ : ab_SG} (h : (fw_c b0 = 0 → (0 ≤ fw_c 0 ∧ fw_c 0 ≤ 1) ∧ R (some (0, 0, 0)) σ) ∧ (fw_c b0 ≠ 0 → sp_m_isIn [(0, 0, a3), (0, 0, 0), (0, 0, 9)] σ (fun rv σ2 => G 28 [some (2, 93, 0), some (0, 0, a1), some (0, 0, a2), some (0, 0, a3)] (rv.toList ++ []) σ2))) : G 18 [some (2, 93, 0), some (0, 0, a1), some (0, 0, a2), some (0, 0, a3)] [(0, 0, b0)] σ := fw_on hG [10, 18, 28, 37, 47] 200 h
theorem fs_m_teach_28 {G : fw_K} {R : fw_KR} (hG : fw_cls st_m_teach R G) {a1 a2 a3 b0 : Int} {σ : ab_SG} (h : (fw_c b0 = 0 → (0 ≤ fw_c 0 ∧ fw_c 0 ≤ 1) ∧ R (some (0, 0, 0)) σ) ∧ (fw_c b0 ≠ 0 → sp_m_known [(2, 93, 0), (0, 0, a1), (0, 0, a2)] σ (fun rv σ2 => G 37 [some (2, 93, 0), some (0, 0, a1), some (0, 0, a2), some (0, 0, a3)] (rv.toList ++ []) σ2))) : G 28 [some (2, 93, 0), some (0, 0, a1), some (0, 0, a2), some (0, 0, a3)] [(0, 0, b0)] σ := fw_on hG [10, 18, 28, 37, 47] 200 h
theorem fs_m_teach_37 {G : fw_K} {R : fw_KR} (hG : fw_cls st_m_teach R G) {a1 a2 a3 b0 : Int} {σ : ab_SG} (h : (fw_c b0 ≠ fw_c a3 → sp_m_snap [(2, 93, 0)] σ (fun rv σ2 => G 47 [some (2, 93, 0), some (0, 0, a1), some (0, 0, a2), some (0, 0, a3)] (rv.toList ++ []) σ2)) ∧ (fw_c b0 = fw_c a3 → (0 ≤ fw_c 0 ∧ fw_c 0 ≤ 1) ∧ R (some (0, 0, 0)) σ)) : G 37 [some (2, 93, 0), some (0, 0, a1), some (0, 0, a2), some (0, 0, a3)] [(0, 0, b0)] σ := fw_on hG [10, 18, 28, 37, 47] 200 h
theorem fs_m_teach_47 {G : fw_K} {R : fw_KR} (hG : fw_cls st_m_teach R G) {a1 a2 a3 : Int} {σ : ab_SG} (h : (0 ≤ fw_c ((182 + (9 * a1)) + a2) ∧ fw_c ((182 + (9 * a1)) + a2) < ((474 : Nat) : Int)) ∧ True ∧ ((0 ≤ fw_c 1 ∧ fw_c 1 ≤ 1) ∧ R (some (0, 0, 1)) (ab_ups σ 95 (fw_c ((182 + (9 * a1)) + a2)).toNat (fw_c a3)))) : G 47 [some (2, 93, 0), some (0, 0, a1), some (0, 0, a2), some (0, 0, a3)] [] σ := fw_on hG [10, 18, 28, 37, 47] 200 h
abbrev fk_m_dares : List fw_CR := [(171, 3, false, 0, 0, sp_m_isIn), (281, 1, true, 11, 0, sp_m_isPerson), (411, 0, true, 11, 0, sp_m_snap)]
abbrev st_m_dares : fw_K → fw_KR → fw_K := fw_st vwCl nn_sh nn_kd fw_kv fw_wc (nn_KI20.map (fun x => x.1)) (nn_KJ20.map (fun x => x.1)) (nn_PF20.map (fun x => x.1)) (nn_PS20.map (fun x => x.1)) fk_m_dares 1 nn_dt317 3 1
theorem fs_m_dares_0 {G : fw_K} {R : fw_KR} (hG : fw_cls st_m_dares R G) {p k : Int} {σ : ab_SG} (h : sp_m_isPerson [(2, 93, 0), (0, 0, p)] (ab_ups σ 93 0 (fw_c 0)) (fun rv σ2 => G 10 [some (2, 93, 0), some (0, 0, p), some (0, 0, k)] (rv.toList ++ []) σ2)) : G 0 [some (2, 93, 0), some (0, 0, p), some (0, 0, k)] [] σ := fw_on hG [10, 20, 43] 200 h
theorem fs_m_dares_10 {G : fw_K} {R : fw_KR} (hG : fw_cls st_m_dares R G) {a1 a2 b0 : Int} {σ : ab_SG} (h : (fw_c b0 = 0 → (0 ≤ fw_c 0 ∧ fw_c 0 ≤ 1) ∧ R (some (0, 0, 0)) σ) ∧ (fw_c b0 ≠ 0 → sp_m_isIn [(0, 0, a2), (0, 0, 0), (0, 0, 9)] σ (fun rv σ2 => G 20 [some (2, 93, 0), some (0, 0, a1), some (0, 0, a2)] (rv.toList ++ []) σ2))) : G 10 [some (2, 93, 0), some (0, 0, a1), some (0, 0, a2)] [(0, 0, b0)] σ := fw_on hG [10, 20, 43] 200 h
theorem fs_m_dares_20 {G : fw_K} {R : fw_KR} (hG : fw_cls st_m_dares R G) {a1 a2 b0 : Int} {σ : ab_SG} (h : (fw_c b0 = 0 → (0 ≤ fw_c 0 ∧ fw_c 0 ≤ 1) ∧ R (some (0, 0, 0)) σ) ∧ (fw_c b0 ≠ 0 → (0 ≤ fw_c (227 + a1) ∧ fw_c (227 + a1) < ((474 : Nat) : Int)) ∧ ((fw_c (σ 95 (fw_c (227 + a1)).toNat) ≠ fw_c a2 → sp_m_snap [(2, 93, 0)] σ (fun rv σ2 => G 43 [some (2, 93, 0), some (0, 0, a1), some (0, 0, a2)] (rv.toList ++ []) σ2)) ∧ (fw_c (σ 95 (fw_c (227 + a1)).toNat) = fw_c a2 → (0 ≤ fw_c 0 ∧ fw_c 0 ≤ 1) ∧ R (some (0, 0, 0)) σ)))) : G 20 [some (2, 93, 0), some (0, 0, a1), some (0, 0, a2)] [(0, 0, b0)] σ := fw_on hG [10, 20, 43] 200 h
theorem fs_m_dares_43 {G : fw_K} {R : fw_KR} (hG : fw_cls st_m_dares R G) {a1 a2 : Int} {σ : ab_SG} (h : (0 ≤ fw_c (227 + a1) ∧ fw_c (227 + a1) < ((474 : Nat) : Int)) ∧ True ∧ ((0 ≤ fw_c 1 ∧ fw_c 1 ≤ 1) ∧ R (some (0, 0, 1)) (ab_ups σ 95 (fw_c (227 + a1)).toNat (fw_c a2)))) : G 43 [some (2, 93, 0), some (0, 0, a1), some (0, 0, a2)] [] σ := fw_on hG [10, 20, 43] 200 h

section
variable {l : Launch} {cy : Nat → ClassId} {ad wr cr : Nat → Nat} {D : va_G}
theorem fm_m_isPerson (hinj : nn_inj ad) : fw_H l cy ad wr cr D 249 0 sp_m_isPerson := fw_mk hinj (⟨"NameNotesModel", "isPerson", "(I)Z"⟩, prog_14_method_44_code, 2, (Option.some Jvm.ClassFile.FieldType.boolean), 1, true, 1) rfl rfl nn_KI20_ok nn_KJ20_ok nn_PF20_ok nn_PS20_ok (by decide +kernel) rfl rfl (fun _ h => absurd h List.not_mem_nil) (fun as σ K h => by
  obtain ⟨p, rfl, h⟩ := h
  have t2 : (fw_c 2).toNat = 2 := by rw [fw_c_id (by decide) (by decide)]; rfl
  have u2 : 0 ≤ fw_c 2 ∧ fw_c 2 < ((474 : Nat) : Int) := by rw [fw_c_id (by decide) (by decide)]; decide
  refine ⟨rfl, fun G hG => fs_m_isPerson_0 hG ?_⟩
  unfold m_pe at h
  rw [t2]
  refine ⟨fun q => ⟨fw_01, ?_⟩, fun q => ⟨u2, fun q2 => ⟨fw_01, ?_⟩, fun q2 => ⟨by rw [fw_c1]; decide, ?_⟩⟩⟩
  · rw [m_b0 (fun z => by omega)] at h; exact h
  · rw [m_b0 (fun z => by omega)] at h; exact h
  · rw [m_b1 q q2] at h; exact h)
theorem fm_m_isTune (hinj : nn_inj ad) : fw_H l cy ad wr cr D 239 1 sp_m_isTune := fw_mk hinj (⟨"NameNotesModel", "isTune", "(I)Z"⟩, prog_14_method_42_code, 2, (Option.some Jvm.ClassFile.FieldType.boolean), 1, true, 1) rfl rfl nn_KI20_ok nn_KJ20_ok nn_PF20_ok nn_PS20_ok (by decide +kernel) rfl rfl (List.forall_mem_cons.mpr ⟨fw_row nn_PM20_ok (x := 261) (k := 0) (mn := 240) (np := 0) (ob := true) (ci := 11) (⟨"NameNotesModel", "tunes", "()I"⟩, prog_14_method_41_code, 1, (Option.some Jvm.ClassFile.FieldType.int), 0, true, 0) rfl (by decide +kernel) rfl rfl (by decide) (fun _ => ⟨_, _, rfl⟩) (fm_m_tunes hinj), (fun _ h => absurd h List.not_mem_nil)⟩) (fun as σ K h => by
  obtain ⟨p, rfl, h⟩ := h
  refine ⟨rfl, fun G hG => fs_m_isTune_0 hG ?_⟩
  unfold m_tu at h
  refine ⟨fun q => ⟨fw_01, ?_⟩, fun q => ⟨rfl, fs_m_isTune_9 hG ⟨fun q2 => ⟨fw_01, ?_⟩, fun q2 => ⟨by rw [fw_c1]; decide, ?_⟩⟩⟩⟩
  · rw [m_b0 (fun z => by omega)] at h; exact h
  · rw [m_b0 (fun z => by omega)] at h; exact h
  · rw [m_b1 q q2] at h; exact h)
theorem fm_m_known (hinj : nn_inj ad) : fw_H l cy ad wr cr D 250 0 sp_m_known := fw_mk hinj (⟨"NameNotesModel", "known", "(II)I"⟩, prog_14_method_54_code, 3, (Option.some Jvm.ClassFile.FieldType.int), 2, true, 0) rfl rfl nn_KI20_ok nn_KJ20_ok nn_PF20_ok nn_PS20_ok (by decide +kernel) rfl rfl (fun _ h => absurd h List.not_mem_nil) (fun as σ K h => by
  obtain ⟨p, x, rfl, hp, hx, h⟩ := h
  have e : fw_c ((182 + 9 * (p : Int)) + (x : Int)) = ((182 + 9 * p + x : Nat) : Int) := by rw [fw_c_id (by omega) (by omega)]; omega
  refine ⟨rfl, fun G hG => fs_m_known_0 hG ?_⟩
  rw [e, Int.toNat_natCast]
  exact ⟨⟨Int.natCast_nonneg _, by omega⟩, h⟩)
theorem fm_m_snap (hinj : nn_inj ad) : fw_H l cy ad wr cr D 316 0 sp_m_snap := fw_mk hinj (⟨"NameNotesModel", "snap", "()V"⟩, prog_14_method_112_code, 2, (Option.none : Option Jvm.ClassFile.FieldType), 0, true, 4) rfl rfl nn_KI20_ok nn_KJ20_ok nn_PF20_ok nn_PS20_ok (by decide +kernel) rfl rfl (fun _ h => absurd h List.not_mem_nil) (fun as σ K h => by
  obtain ⟨rfl, hs, h⟩ := h
  have e8 : fw_c 8 = 8 := fw_c_id (by decide) (by decide)
  have e50 : fw_c 50 = 50 := fw_c_id (by decide) (by decide)
  have e400 : fw_c 400 = 400 := fw_c_id (by decide) (by decide)
  have e24 : fw_c (σ 93 24) = σ 93 24 := fw_c_id (by omega) (by omega)
  refine ⟨rfl, fun G hG => fs_m_snap_0 hG ?_⟩
  have key2 : ∀ (n : Nat) (τ0 : ab_SG), n < 8 → τ0 93 24 = (n : Int) → (∀ σ' : ab_SG, ab_okM sn_M τ0 σ' → σ' 93 24 = (n : Int) + 1 → (∀ j : Nat, j < 50 * n → σ' 98 j = τ0 98 j) → (∀ j : Nat, j < 50 → σ' 98 (50 * n + j) = fw_c (τ0 95 (182 + j))) → K none σ') →
      ∀ (f i : Nat) (τ : ab_SG), i + f = 50 → ab_okM [(98, 1000000)] τ0 τ → (∀ j : Nat, j < 50 * n → τ 98 j = τ0 98 j) → (∀ j : Nat, j < i → τ 98 (50 * n + j) = fw_c (τ0 95 (182 + j))) → G 52 [some (2, 93, 0), some (0, 0, (i : Int))] [] τ := by
    intro n τ0 hn h24 hk f
    induction f with
    | zero =>
      intro i τ hi M a1 a2
      have ei : fw_c (i : Int) = i := fw_c_id (by omega) (by omega)
      have k24 : τ 93 24 = (n : Int) := (M 93 24 (by decide)).trans h24
      refine fs_m_snap_52 hG ?_
      rw [ei, e50, k24]
      refine ⟨fun _ => hk _ (fw_okM_ups (fw_okM_tr (fw_okM_refl _ _) M (by decide)) (by decide)) (ab_ups_eq.trans (fw_c_id (by omega) (by omega))) (fun j hj => ?_) (fun j hj => ?_), fun z => absurd z (by omega)⟩
      · rw [ab_ups_ne (fun z => absurd z.1 (by decide))]; exact a1 j hj
      · rw [ab_ups_ne (fun z => absurd z.1 (by decide))]; exact a2 j (by omega)
    | succ f ih =>
      intro i τ hi M a1 a2
      have ei : fw_c (i : Int) = i := fw_c_id (by omega) (by omega)
      have k24 : τ 93 24 = (n : Int) := (M 93 24 (by decide)).trans h24
      have ej : fw_c (50 * (n : Int) + (i : Int)) = ((50 * n + i : Nat) : Int) := by rw [fw_c_id (by omega) (by omega)]; omega
      have ek : fw_c (182 + (i : Int)) = ((182 + i : Nat) : Int) := by rw [fw_c_id (by omega) (by omega)]; omega
      refine fs_m_snap_52 hG ?_
      rw [k24, ei, ej, ek, e50, Int.toNat_natCast, Int.toNat_natCast, show τ 95 = τ0 95 from fw_okM_c M (by decide)]
      refine ⟨fun z => absurd z (by omega), fun _ => ⟨⟨Int.natCast_nonneg _, by omega⟩, ⟨Int.natCast_nonneg _, by omega⟩, trivial, ih (i + 1) _ (by omega) (fw_okM_upa M (by decide)) (fun j hj => ?_) (fun j hj => ?_)⟩⟩
      · rw [ab_ups_ne (fun z => by omega)]; exact a1 j hj
      · by_cases c : j = i
        · rw [c, ab_ups_eq]
        · rw [ab_ups_ne (fun z => by omega)]; exact a2 j (by omega)
  rw [e24, e8]
  refine ⟨fun q => ?_, fun q => ?_⟩
  · obtain ⟨n, hn⟩ := Int.eq_ofNat_of_zero_le hs.1
    refine fs_m_snap_50 hG (key2 n σ (by omega) hn (fun σ' M a b c => h σ' ⟨M, fun n' hn' _ => ?_, fun z => absurd z q⟩) 50 0 σ rfl (fw_okM_refl _ _) (fun _ _ => rfl) (fun j hj => absurd hj (Nat.not_lt_zero _)))
    have : n' = n := by omega
    subst this
    exact ⟨a, b, c⟩
  · have key1 : ∀ (f i : Nat) (τ : ab_SG), i + f = 350 → ab_okM [(98, 1000000)] σ τ → (∀ j : Nat, j < i → τ 98 j = fw_c (σ 98 (j + 50))) → (∀ j : Nat, i ≤ j → τ 98 j = σ 98 j) → G 12 [some (2, 93, 0), some (0, 0, ((50 + i : Nat) : Int))] [] τ := by
      intro f
      induction f with
      | zero =>
        intro i τ hi M a1 a2
        have ei : fw_c ((50 + i : Nat) : Int) = ((50 + i : Nat) : Int) := fw_c_id (by omega) (by omega)
        have k24 : τ 93 24 = 8 := (M 93 24 (by decide)).trans q
        refine fs_m_snap_12 hG ?_
        rw [ei, e400, k24]
        refine ⟨fun _ => fs_m_snap_50a hG (key2 7 _ (by decide) (ab_ups_eq.trans (fw_c_id (by decide) (by decide))) (fun σ' M2 a b c => h σ' ⟨?_, fun n' hn' z => absurd z (by omega), fun _ => ⟨a, fun j hj => ?_, fun j hj => ?_⟩⟩) 50 0 _ rfl (fw_okM_refl _ _) (fun _ _ => rfl) (fun j hj => absurd hj (Nat.not_lt_zero _))), fun z => absurd z (by omega)⟩
        · exact fw_okM_tr (fw_okM_ups (fw_okM_tr (fw_okM_refl _ _) M (by decide)) (by decide)) M2 (fun _ h => h)
        · rw [b j (by omega), ab_ups_ne (fun z => absurd z.1 (by decide))]; exact a1 j (by omega)
        · rw [c j hj, ab_ups_ne (fun z => absurd z.1 (by decide)), show τ 95 = σ 95 from fw_okM_c M (by decide)]
      | succ f ih =>
        intro i τ hi M a1 a2
        have ei : fw_c ((50 + i : Nat) : Int) = ((50 + i : Nat) : Int) := fw_c_id (by omega) (by omega)
        have ej : fw_c (((50 + i : Nat) : Int) - 50) = (i : Int) := by rw [fw_c_id (by omega) (by omega)]; omega
        refine fs_m_snap_12 hG ?_
        rw [ei, ej, e400, Int.toNat_natCast, Int.toNat_natCast, a2 (50 + i) (by omega), show 50 + i = i + 50 from Nat.add_comm _ _]
        refine ⟨fun z => absurd z (by omega), fun _ => ⟨⟨Int.natCast_nonneg _, by omega⟩, ⟨Int.natCast_nonneg _, by omega⟩, trivial, ?_⟩⟩
        have h9 := ih (i + 1) (ab_ups τ 98 i (fw_c (σ 98 (i + 50)))) (by omega) (fw_okM_upa M (by decide)) (fun j hj => by
          by_cases c : j = i
          · rw [c, ab_ups_eq]
          · rw [ab_ups_ne (fun z => by omega)]; exact a1 j (by omega)) (fun j hj => by rw [ab_ups_ne (fun z => by omega)]; exact a2 j (by omega))
        rw [show ((i + 50 : Nat) : Int) + 1 = ((50 + (i + 1) : Nat) : Int) by omega]
        exact h9
    exact key1 350 0 σ rfl (fw_okM_refl _ _) (fun j hj => absurd hj (Nat.not_lt_zero _)) (fun _ _ => rfl))
theorem fm_m_undo (hinj : nn_inj ad) : fw_H l cy ad wr cr D 314 0 sp_m_undo := fw_mk hinj (⟨"NameNotesModel", "undo", "()I"⟩, prog_14_method_113_code, 2, (Option.some Jvm.ClassFile.FieldType.int), 0, true, 0) rfl rfl nn_KI20_ok nn_KJ20_ok nn_PF20_ok nn_PS20_ok (by decide +kernel) rfl rfl (fun _ h => absurd h List.not_mem_nil) (fun as σ K h => by
  obtain ⟨rfl, hs, h0, h1⟩ := h
  have e50 : fw_c 50 = 50 := fw_c_id (by decide) (by decide)
  have e24 : fw_c (σ 93 24) = σ 93 24 := fw_c_id (by omega) (by omega)
  refine ⟨rfl, fun G hG => fs_m_undo_0 hG ?_⟩
  rw [e24, fw_c0]
  refine ⟨fun q => ?_, fun q => h0 q⟩
  obtain ⟨n, hn⟩ := Int.eq_ofNat_of_zero_le (show 0 ≤ σ 93 24 - 1 by omega)
  have en : fw_c (σ 93 24 - 1) = (n : Int) := by rw [fw_c_id (by omega) (by omega)]; exact hn
  rw [en]
  have B0 : ab_okM un_M σ (ab_ups (ab_ups σ 93 0 0) 93 24 (n : Int)) := fw_okM_ups (fw_okM_ups (fw_okM_refl _ _) (by decide)) (by decide)
  have key : ∀ (f i : Nat) (τ : ab_SG), i + f = 50 → ab_okM un_M σ τ → τ 93 24 = (n : Int) → (∀ j : Nat, (j < 182 ∨ 182 + i ≤ j) → τ 95 j = σ 95 j) → (∀ j : Nat, j < i → τ 95 (182 + j) = fw_c (σ 98 (50 * n + j))) → G 26 [some (2, 93, 0), some (0, 0, (i : Int))] [] τ := by
    intro f
    induction f with
    | zero =>
      intro i τ hi M k24 a1 a2
      have ei : fw_c (i : Int) = i := fw_c_id (by omega) (by omega)
      refine fs_m_undo_26 hG ?_
      rw [ei, e50, k24]
      exact ⟨fun _ => h1 n (by omega) τ M k24 (fun j hj => a1 j (by omega)) (fun j hj => a2 j (by omega)), fun z => absurd z (by omega)⟩
    | succ f ih =>
      intro i τ hi M k24 a1 a2
      have ei : fw_c (i : Int) = i := fw_c_id (by omega) (by omega)
      have ej : fw_c (50 * (n : Int) + (i : Int)) = ((50 * n + i : Nat) : Int) := by rw [fw_c_id (by omega) (by omega)]; omega
      have ek : fw_c (182 + (i : Int)) = ((182 + i : Nat) : Int) := by rw [fw_c_id (by omega) (by omega)]; omega
      refine fs_m_undo_26 hG ?_
      rw [k24, ei, ej, ek, e50, Int.toNat_natCast, Int.toNat_natCast, show τ 98 = σ 98 from fw_okM_c M (by decide)]
      refine ⟨fun z => absurd z (by omega), fun _ => ⟨⟨Int.natCast_nonneg _, by omega⟩, ⟨Int.natCast_nonneg _, by omega⟩, trivial, ih (i + 1) _ (by omega) (fw_okM_upa M (by decide)) ?_ (fun j hj => ?_) (fun j hj => ?_)⟩⟩
      · rw [ab_ups_ne (fun z => absurd z.1 (by decide))]; exact k24
      · rw [ab_ups_ne (fun z => by omega)]; exact a1 j (by omega)
      · by_cases c : j = i
        · rw [c, ab_ups_eq]
        · rw [ab_ups_ne (fun z => by omega)]; exact a2 j (by omega)
  refine key 50 0 _ rfl B0 ab_ups_eq (fun j _ => ?_) (fun j hj => absurd hj (Nat.not_lt_zero _))
  rw [ab_ups_ne (fun z => absurd z.1 (by decide)), ab_ups_ne (fun z => absurd z.1 (by decide))])
theorem fm_m_teach (hinj : nn_inj ad) : fw_H l cy ad wr cr D 315 2 sp_m_teach := fw_mk hinj (⟨"NameNotesModel", "teach", "(III)Z"⟩, prog_14_method_114_code, 4, (Option.some Jvm.ClassFile.FieldType.boolean), 3, true, 1) rfl rfl nn_KI20_ok nn_KJ20_ok nn_PF20_ok nn_PS20_ok (by decide +kernel) rfl rfl (List.forall_mem_cons.mpr ⟨fw_row nn_PM20_ok (x := 171) (k := 0) (mn := 226) (np := 3) (ob := false) (ci := 0) (⟨"NameNotesModel", "isIn", "(III)Z"⟩, prog_14_method_8_code, 3, (Option.some Jvm.ClassFile.FieldType.boolean), 3, false, 1) rfl (by decide +kernel) rfl rfl (by decide) (fun q => by cases q) (fm_m_isIn hinj), (List.forall_mem_cons.mpr ⟨fw_row nn_PM20_ok (x := 267) (k := 0) (mn := 239) (np := 1) (ob := true) (ci := 11) (⟨"NameNotesModel", "isTune", "(I)Z"⟩, prog_14_method_42_code, 2, (Option.some Jvm.ClassFile.FieldType.boolean), 1, true, 1) rfl (by decide +kernel) rfl rfl (by decide) (fun _ => ⟨_, _, rfl⟩) (fm_m_isTune hinj), (List.forall_mem_cons.mpr ⟨fw_row nn_PM20_ok (x := 281) (k := 0) (mn := 249) (np := 1) (ob := true) (ci := 11) (⟨"NameNotesModel", "isPerson", "(I)Z"⟩, prog_14_method_44_code, 2, (Option.some Jvm.ClassFile.FieldType.boolean), 1, true, 1) rfl (by decide +kernel) rfl rfl (by decide) (fun _ => ⟨_, _, rfl⟩) (fm_m_isPerson hinj), (List.forall_mem_cons.mpr ⟨fw_row nn_PM20_ok (x := 284) (k := 0) (mn := 250) (np := 2) (ob := true) (ci := 11) (⟨"NameNotesModel", "known", "(II)I"⟩, prog_14_method_54_code, 3, (Option.some Jvm.ClassFile.FieldType.int), 2, true, 0) rfl (by decide +kernel) rfl rfl (by decide) (fun _ => ⟨_, _, rfl⟩) (fm_m_known hinj), (List.forall_mem_cons.mpr ⟨fw_row nn_PM20_ok (x := 411) (k := 0) (mn := 316) (np := 0) (ob := true) (ci := 11) (⟨"NameNotesModel", "snap", "()V"⟩, prog_14_method_112_code, 2, (Option.none : Option Jvm.ClassFile.FieldType), 0, true, 4) rfl (by decide +kernel) rfl rfl (by decide) (fun _ => ⟨_, _, rfl⟩) (fm_m_snap hinj), (fun _ h => absurd h List.not_mem_nil)⟩)⟩)⟩)⟩)⟩) (fun as σ K h => by
  obtain ⟨p, x, k, rfl, ⟨ep, ex, ek⟩, ⟨w0, w2, w24⟩, h0, h1⟩ := h
  have e9 : fw_c 9 = 9 := fw_c_id (by decide) (by decide)
  refine ⟨rfl, fun G hG => fs_m_teach_0 hG ⟨p, rfl, fs_m_teach_10 hG ?_⟩⟩
  rw [m_pe_ups, fw_c0]
  refine ⟨fun q => ⟨by decide, h0 (fun z => absurd (z.1.symm.trans (m_b_eq q)) (by decide))⟩, fun q => ⟨x, rfl, fs_m_teach_18 hG ?_⟩⟩
  have qp := m_b_ne q
  rw [m_tu_ups, fw_c0]
  refine ⟨fun q => ⟨by decide, h0 (fun z => absurd (z.2.1.symm.trans (m_b_eq q)) (by decide))⟩, fun q => ⟨k, 0, 9, rfl, fs_m_teach_28 hG ?_⟩⟩
  have qx := m_b_ne q
  rw [fw_c0, e9, ek]
  refine ⟨fun q => ⟨by decide, h0 (fun z => fw_bo_eq q z.2.2)⟩, fun q => ?_⟩
  have qk := fw_bo_ne q
  have p1 := m_pe_t qp
  have x1 := m_tu_t qx
  rw [ep, fw_c_id (by omega) (by omega)] at p1
  rw [ex, fw_c_id (by omega) (by omega)] at x1
  obtain ⟨p', rfl⟩ := Int.eq_ofNat_of_zero_le p1.1
  obtain ⟨x', rfl⟩ := Int.eq_ofNat_of_zero_le x1.1
  have hh := h1 p' x' rfl rfl qp qx qk
  refine ⟨p', x', rfl, by omega, by omega, fs_m_teach_37 hG ?_⟩
  rw [ek, show ab_ups σ 93 0 0 95 = σ 95 from ab_ups_row (by decide), fw_c0]
  refine ⟨fun q => ⟨rfl, ?_, fun σ1 hs => fs_m_teach_47 hG ?_⟩, fun q => ⟨by decide, hh.1 q⟩⟩
  · rw [ab_ups_ne (fun z => absurd z.2 (by decide))]
    exact w24
  · have e : fw_c ((182 + 9 * (p' : Int)) + (x' : Int)) = ((182 + 9 * p' + x' : Nat) : Int) := by rw [fw_c_id (by omega) (by omega)]; omega
    rw [e, Int.toNat_natCast, fw_c1]
    exact ⟨⟨Int.natCast_nonneg _, by omega⟩, trivial, by decide, hh.2 q _ ⟨σ1, hs, rfl⟩⟩)
theorem fm_m_dares (hinj : nn_inj ad) : fw_H l cy ad wr cr D 317 1 sp_m_dares := fw_mk hinj (⟨"NameNotesModel", "dares", "(II)Z"⟩, prog_14_method_115_code, 3, (Option.some Jvm.ClassFile.FieldType.boolean), 2, true, 1) rfl rfl nn_KI20_ok nn_KJ20_ok nn_PF20_ok nn_PS20_ok (by decide +kernel) rfl rfl (List.forall_mem_cons.mpr ⟨fw_row nn_PM20_ok (x := 171) (k := 0) (mn := 226) (np := 3) (ob := false) (ci := 0) (⟨"NameNotesModel", "isIn", "(III)Z"⟩, prog_14_method_8_code, 3, (Option.some Jvm.ClassFile.FieldType.boolean), 3, false, 1) rfl (by decide +kernel) rfl rfl (by decide) (fun q => by cases q) (fm_m_isIn hinj), (List.forall_mem_cons.mpr ⟨fw_row nn_PM20_ok (x := 281) (k := 0) (mn := 249) (np := 1) (ob := true) (ci := 11) (⟨"NameNotesModel", "isPerson", "(I)Z"⟩, prog_14_method_44_code, 2, (Option.some Jvm.ClassFile.FieldType.boolean), 1, true, 1) rfl (by decide +kernel) rfl rfl (by decide) (fun _ => ⟨_, _, rfl⟩) (fm_m_isPerson hinj), (List.forall_mem_cons.mpr ⟨fw_row nn_PM20_ok (x := 411) (k := 0) (mn := 316) (np := 0) (ob := true) (ci := 11) (⟨"NameNotesModel", "snap", "()V"⟩, prog_14_method_112_code, 2, (Option.none : Option Jvm.ClassFile.FieldType), 0, true, 4) rfl (by decide +kernel) rfl rfl (by decide) (fun _ => ⟨_, _, rfl⟩) (fm_m_snap hinj), (fun _ h => absurd h List.not_mem_nil)⟩)⟩)⟩) (fun as σ K h => by
  obtain ⟨p, k, rfl, ⟨ep, ek⟩, ⟨w0, w2, w24⟩, h0, h1⟩ := h
  have e9 : fw_c 9 = 9 := fw_c_id (by decide) (by decide)
  refine ⟨rfl, fun G hG => fs_m_dares_0 hG ⟨p, rfl, fs_m_dares_10 hG ?_⟩⟩
  rw [m_pe_ups, fw_c0]
  refine ⟨fun q => ⟨by decide, h0 (fun z => absurd (z.1.symm.trans (m_b_eq q)) (by decide))⟩, fun q => ⟨k, 0, 9, rfl, fs_m_dares_20 hG ?_⟩⟩
  have qp := m_b_ne q
  rw [fw_c0, e9, ek]
  refine ⟨fun q => ⟨by decide, h0 (fun z => fw_bo_eq q z.2)⟩, fun q => ?_⟩
  have qk := fw_bo_ne q
  have p1 := m_pe_t qp
  rw [ep, fw_c_id (by omega) (by omega)] at p1
  obtain ⟨p', rfl⟩ := Int.eq_ofNat_of_zero_le p1.1
  have hh := h1 p' rfl qp qk
  have e : fw_c (227 + (p' : Int)) = ((227 + p' : Nat) : Int) := by rw [fw_c_id (by omega) (by omega)]; omega
  rw [e, Int.toNat_natCast, show ab_ups σ 93 0 0 95 = σ 95 from ab_ups_row (by decide)]
  refine ⟨⟨Int.natCast_nonneg _, by omega⟩, fun q => ⟨rfl, ?_, fun σ1 hs => fs_m_dares_43 hG ?_⟩, fun q => ⟨by decide, hh.1 q⟩⟩
  · rw [ab_ups_ne (fun z => absurd z.2 (by decide))]
    exact w24
  · rw [e, Int.toNat_natCast, fw_c1]
    exact ⟨⟨Int.natCast_nonneg _, by omega⟩, trivial, by decide, hh.2 q _ ⟨σ1, hs, rfl⟩⟩)
end
end
section
/-! what teaches and takes back: the class -/
def tc_T : List (Nat × Nat) := [(9, 45), (10, 5), (86, 88)]
def sp_atc : fw_SP := sp_of at_k tc_T
def sp_putc : fw_SP := sp_of put_k tc_T
def c_pe (σ : ab_SG) (p : Int) : Bool := decide (0 ≤ fw_c p) && decide (fw_c p < fw_c (σ 3 13))
def c_tu (σ : ab_SG) (x : Int) : Bool := decide (0 ≤ fw_c x) && decide (fw_c x < fw_c (σ 3 11))
theorem c_pe_t {σ : ab_SG} {p : Int} (h : c_pe σ p = true) : 0 ≤ fw_c p ∧ fw_c p < fw_c (σ 3 13) := by
  unfold c_pe at h
  rw [Bool.and_eq_true] at h
  exact ⟨of_decide_eq_true h.1, of_decide_eq_true h.2⟩
theorem c_tu_t {σ : ab_SG} {p : Int} (h : c_tu σ p = true) : 0 ≤ fw_c p ∧ fw_c p < fw_c (σ 3 11) := by
  unfold c_tu at h
  rw [Bool.and_eq_true] at h
  exact ⟨of_decide_eq_true h.1, of_decide_eq_true h.2⟩
def sp_isPerson3 : fw_SP := fun as σ K => ∃ p : Int, as = [(2, 3, 0), (0, 0, p)] ∧ K (some (0, 0, m_b (c_pe σ p))) σ
def sp_isTune3 : fw_SP := fun as σ K => ∃ p : Int, as = [(2, 3, 0), (0, 0, p)] ∧ K (some (0, 0, m_b (c_tu σ p))) σ
def sp_isNinth : fw_SP := fun as σ K => ∃ k : Int, as = [(0, 0, k)] ∧ K (some (0, 0, m_b (decide (0 ≤ fw_c k) && decide (fw_c k ≤ 9)))) σ
def sp_ninth3 : fw_SP := fun as σ K => ∃ p x : Nat, as = [(2, 3, 0), (0, 0, (p : Int)), (0, 0, (x : Int))] ∧ p < 5 ∧ x < 9 ∧ K (some (0, 0, σ 9 (9 * p + x))) σ
def sp_setNinth3 : fw_SP := fun as σ K => ∃ (p x : Nat) (k : Int), as = [(2, 3, 0), (0, 0, (p : Int)), (0, 0, (x : Int)), (0, 0, k)] ∧ p < 5 ∧ x < 9 ∧ K none (ab_ups σ 9 (9 * p + x) (fw_c k))
def kj_M : ab_ML := [(85, 1), (86, 1000000)]
/-- the row n of the journal tells a person's nineths -/
def kj_row (σ σ' : ab_SG) (n p : Nat) : Prop := (∀ x : Nat, x < 9 → σ' 86 (11 * n + x) = fw_c (σ 9 (9 * p + x))) ∧ σ' 86 (11 * n + 9) = fw_c (σ 10 p) ∧ σ' 86 (11 * n + 10) = (p : Int)
def kj_is (σ σ' : ab_SG) (p : Nat) : Prop := ab_okM kj_M σ σ' ∧ (∀ n : Nat, σ 85 1 = (n : Int) → n < 8 → σ' 85 1 = (n : Int) + 1 ∧ (∀ j : Nat, j < 11 * n → σ' 86 j = σ 86 j) ∧ kj_row σ σ' n p) ∧
  (σ 85 1 = 8 → σ' 85 1 = 8 ∧ (∀ j : Nat, j < 77 → σ' 86 j = fw_c (σ 86 (j + 11))) ∧ kj_row σ σ' 7 p)
def sp_keep : fw_SP := fun as σ K => ∃ p : Nat, as = [(2, 85, 0), (2, 3, 0), (0, 0, (p : Int))] ∧ p < 5 ∧ (0 ≤ σ 85 1 ∧ σ 85 1 ≤ 8) ∧ ∀ σ' : ab_SG, kj_is σ σ' p → K none σ'
def tk_M : ab_ML := [(85, 1), (9, 1000000), (10, 1000000)]
def tk_is (σ σ' : ab_SG) (n p : Nat) : Prop := ab_okM tk_M σ σ' ∧ σ' 85 1 = (n : Int) ∧ (∀ j : Nat, (j < 9 * p ∨ 9 * p + 9 ≤ j) → σ' 9 j = σ 9 j) ∧ (∀ x : Nat, x < 9 → σ' 9 (9 * p + x) = fw_c (σ 86 (11 * n + x))) ∧ σ' 10 p = fw_c (σ 86 (11 * n + 9)) ∧ ∀ j : Nat, j ≠ p → σ' 10 j = σ 10 j
def sp_takeBack : fw_SP := fun as σ K => as = [(2, 85, 0), (2, 3, 0)] ∧ ∃ n p : Nat, σ 85 1 = (n : Int) + 1 ∧ n < 8 ∧ p < 5 ∧ σ 86 (11 * n + 10) = (p : Int) ∧ ∀ σ' : ab_SG, tk_is σ σ' n p → K none σ'
def sp_undo : fw_SP := fun as σ K => as = [(2, 0, 0)] ∧ (0 ≤ σ 85 1 ∧ σ 85 1 ≤ 8) ∧ (σ 85 1 = 0 → K (some (0, 0, -1)) σ) ∧ (σ 85 1 ≠ 0 → ∃ n p : Nat, σ 85 1 = (n : Int) + 1 ∧ p < 5 ∧ σ 86 (11 * n + 10) = (p : Int) ∧ ∀ σ' : ab_SG, tk_is σ σ' n p → K (some (0, 0, (n : Int))) σ')
def c_fw (σ : ab_SG) : Prop := (0 ≤ σ 3 11 ∧ σ 3 11 ≤ 9) ∧ (0 ≤ σ 3 13 ∧ σ 3 13 ≤ 5) ∧ (0 ≤ σ 85 1 ∧ σ 85 1 ≤ 8)
/-- one number is put behind a kept row -/
def ce_is (σ σ' : ab_SG) (p a q : Nat) (v : Int) : Prop := ∃ σ1 : ab_SG, kj_is σ σ1 p ∧ σ' = ab_ups σ1 a q (fw_c v)
def sp_teach : fw_SP := fun as σ K => ∃ p x k : Int, as = [(2, 0, 0), (0, 0, p), (0, 0, x), (0, 0, k)] ∧ (fw_c p = p ∧ fw_c x = x ∧ fw_c k = k) ∧ c_fw σ ∧
  (¬ (c_pe σ p = true ∧ c_tu σ x = true ∧ (0 ≤ k ∧ k ≤ 9)) → K (some (0, 0, 0)) σ) ∧
  (∀ p' x' : Nat, p = (p' : Int) → x = (x' : Int) → c_pe σ p = true → c_tu σ x = true → (0 ≤ k ∧ k ≤ 9) → (fw_c (σ 9 (9 * p' + x')) = k → K (some (0, 0, 0)) σ) ∧ (fw_c (σ 9 (9 * p' + x')) ≠ k → ∀ σ' : ab_SG, ce_is σ σ' p' 9 (9 * p' + x') k → K (some (0, 0, 1)) σ'))
def sp_dares : fw_SP := fun as σ K => ∃ p k : Int, as = [(2, 0, 0), (0, 0, p), (0, 0, k)] ∧ (fw_c p = p ∧ fw_c k = k) ∧ c_fw σ ∧
  (¬ (c_pe σ p = true ∧ (0 ≤ k ∧ k ≤ 9)) → K (some (0, 0, 0)) σ) ∧
  (∀ p' : Nat, p = (p' : Int) → c_pe σ p = true → (0 ≤ k ∧ k ≤ 9) → (fw_c (σ 10 p') = k → K (some (0, 0, 0)) σ) ∧ (fw_c (σ 10 p') ≠ k → ∀ σ' : ab_SG, ce_is σ σ' p' 10 p' k → K (some (0, 0, 1)) σ'))
theorem m_bt {a b : Prop} [Decidable a] [Decidable b] (h : (decide a && decide b) = true) : a ∧ b := by
  rw [Bool.and_eq_true] at h
  exact ⟨of_decide_eq_true h.1, of_decide_eq_true h.2⟩
theorem m_bf {a b : Prop} [Decidable a] [Decidable b] (h : (decide a && decide b) = false) : ¬ (a ∧ b) := fun z => by
  rw [decide_eq_true z.1, decide_eq_true z.2] at h
  cases h
abbrev fk_at9 : List fw_CR := []
abbrev st_at9 : fw_K → fw_KR → fw_K := fw_st vwCl nn_sh nn_kd fw_kv fw_wc (nn_KI1.map (fun x => x.1)) (nn_KJ1.map (fun x => x.1)) (nn_PF1.map (fun x => x.1)) (nn_PS1.map (fun x => x.1)) fk_at9 0 nn_dt29 2 0
theorem fs_at9_0 {G : fw_K} {R : fw_KR} (hG : fw_cls st_at9 R G) {x : Int} {σ : ab_SG} (h : (fw_c x < 0 → R (some (0, 0, 0)) σ) ∧ (0 ≤ fw_c x → (fw_c ((45 : Nat) : Int) ≤ fw_c x → R (some (0, 0, 0)) σ) ∧ (fw_c x < fw_c ((45 : Nat) : Int) → (0 ≤ fw_c x ∧ fw_c x < ((45 : Nat) : Int)) ∧ (R (some (0, 0, σ 9 (fw_c x).toNat)) σ)))) : G 0 [some (2, 9, 0), some (0, 0, x)] [] σ := fw_on hG [] 200 h
abbrev fk_put9 : List fw_CR := []
abbrev st_put9 : fw_K → fw_KR → fw_K := fw_st vwCl nn_sh nn_kd fw_kv fw_wc (nn_KI1.map (fun x => x.1)) (nn_KJ1.map (fun x => x.1)) (nn_PF1.map (fun x => x.1)) (nn_PS1.map (fun x => x.1)) fk_put9 0 nn_dt27 3 4
theorem fs_put9_0 {G : fw_K} {R : fw_KR} (hG : fw_cls st_put9 R G) {x v : Int} {σ : ab_SG} (h : (fw_c x < 0 → R none σ) ∧ (0 ≤ fw_c x → (fw_c ((45 : Nat) : Int) ≤ fw_c x → R none σ) ∧ (fw_c x < fw_c ((45 : Nat) : Int) → (0 ≤ fw_c x ∧ fw_c x < ((45 : Nat) : Int)) ∧ True ∧ (R none (ab_ups σ 9 (fw_c x).toNat (fw_c v)))))) : G 0 [some (2, 9, 0), some (0, 0, x), some (0, 0, v)] [] σ := fw_on hG [] 200 h
abbrev fk_at10 : List fw_CR := []
abbrev st_at10 : fw_K → fw_KR → fw_K := fw_st vwCl nn_sh nn_kd fw_kv fw_wc (nn_KI1.map (fun x => x.1)) (nn_KJ1.map (fun x => x.1)) (nn_PF1.map (fun x => x.1)) (nn_PS1.map (fun x => x.1)) fk_at10 0 nn_dt29 2 0
theorem fs_at10_0 {G : fw_K} {R : fw_KR} (hG : fw_cls st_at10 R G) {x : Int} {σ : ab_SG} (h : (fw_c x < 0 → R (some (0, 0, 0)) σ) ∧ (0 ≤ fw_c x → (fw_c ((5 : Nat) : Int) ≤ fw_c x → R (some (0, 0, 0)) σ) ∧ (fw_c x < fw_c ((5 : Nat) : Int) → (0 ≤ fw_c x ∧ fw_c x < ((5 : Nat) : Int)) ∧ (R (some (0, 0, σ 10 (fw_c x).toNat)) σ)))) : G 0 [some (2, 10, 0), some (0, 0, x)] [] σ := fw_on hG [] 200 h
abbrev fk_put10 : List fw_CR := []
abbrev st_put10 : fw_K → fw_KR → fw_K := fw_st vwCl nn_sh nn_kd fw_kv fw_wc (nn_KI1.map (fun x => x.1)) (nn_KJ1.map (fun x => x.1)) (nn_PF1.map (fun x => x.1)) (nn_PS1.map (fun x => x.1)) fk_put10 0 nn_dt27 3 4
theorem fs_put10_0 {G : fw_K} {R : fw_KR} (hG : fw_cls st_put10 R G) {x v : Int} {σ : ab_SG} (h : (fw_c x < 0 → R none σ) ∧ (0 ≤ fw_c x → (fw_c ((5 : Nat) : Int) ≤ fw_c x → R none σ) ∧ (fw_c x < fw_c ((5 : Nat) : Int) → (0 ≤ fw_c x ∧ fw_c x < ((5 : Nat) : Int)) ∧ True ∧ (R none (ab_ups σ 10 (fw_c x).toNat (fw_c v)))))) : G 0 [some (2, 10, 0), some (0, 0, x), some (0, 0, v)] [] σ := fw_on hG [] 200 h
abbrev fk_at86 : List fw_CR := []
abbrev st_at86 : fw_K → fw_KR → fw_K := fw_st vwCl nn_sh nn_kd fw_kv fw_wc (nn_KI1.map (fun x => x.1)) (nn_KJ1.map (fun x => x.1)) (nn_PF1.map (fun x => x.1)) (nn_PS1.map (fun x => x.1)) fk_at86 0 nn_dt29 2 0
theorem fs_at86_0 {G : fw_K} {R : fw_KR} (hG : fw_cls st_at86 R G) {x : Int} {σ : ab_SG} (h : (fw_c x < 0 → R (some (0, 0, 0)) σ) ∧ (0 ≤ fw_c x → (fw_c ((88 : Nat) : Int) ≤ fw_c x → R (some (0, 0, 0)) σ) ∧ (fw_c x < fw_c ((88 : Nat) : Int) → (0 ≤ fw_c x ∧ fw_c x < ((88 : Nat) : Int)) ∧ (R (some (0, 0, σ 86 (fw_c x).toNat)) σ)))) : G 0 [some (2, 86, 0), some (0, 0, x)] [] σ := fw_on hG [] 200 h
abbrev fk_put86 : List fw_CR := []
abbrev st_put86 : fw_K → fw_KR → fw_K := fw_st vwCl nn_sh nn_kd fw_kv fw_wc (nn_KI1.map (fun x => x.1)) (nn_KJ1.map (fun x => x.1)) (nn_PF1.map (fun x => x.1)) (nn_PS1.map (fun x => x.1)) fk_put86 0 nn_dt27 3 4
theorem fs_put86_0 {G : fw_K} {R : fw_KR} (hG : fw_cls st_put86 R G) {x v : Int} {σ : ab_SG} (h : (fw_c x < 0 → R none σ) ∧ (0 ≤ fw_c x → (fw_c ((88 : Nat) : Int) ≤ fw_c x → R none σ) ∧ (fw_c x < fw_c ((88 : Nat) : Int) → (0 ≤ fw_c x ∧ fw_c x < ((88 : Nat) : Int)) ∧ True ∧ (R none (ab_ups σ 86 (fw_c x).toNat (fw_c v)))))) : G 0 [some (2, 86, 0), some (0, 0, x), some (0, 0, v)] [] σ := fw_on hG [] 200 h
abbrev fk_isPerson3 : List fw_CR := []
abbrev st_isPerson3 : fw_K → fw_KR → fw_K := fw_st vwCl nn_sh nn_kd fw_kv fw_wc (nn_KI6.map (fun x => x.1)) (nn_KJ6.map (fun x => x.1)) (nn_PF6.map (fun x => x.1)) (nn_PS6.map (fun x => x.1)) fk_isPerson3 0 nn_dt67 2 1
theorem fs_isPerson3_0 {G : fw_K} {R : fw_KR} (hG : fw_cls st_isPerson3 R G) {p : Int} {σ : ab_SG} (h : (fw_c p < 0 → (0 ≤ fw_c 0 ∧ fw_c 0 ≤ 1) ∧ R (some (0, 0, 0)) σ) ∧ (0 ≤ fw_c p → (fw_c (σ 3 13) ≤ fw_c p → (0 ≤ fw_c 0 ∧ fw_c 0 ≤ 1) ∧ R (some (0, 0, 0)) σ) ∧ (fw_c p < fw_c (σ 3 13) → (0 ≤ fw_c 1 ∧ fw_c 1 ≤ 1) ∧ R (some (0, 0, 1)) σ))) : G 0 [some (2, 3, 0), some (0, 0, p)] [] σ := fw_on hG [] 200 h
abbrev fk_isTune3 : List fw_CR := []
abbrev st_isTune3 : fw_K → fw_KR → fw_K := fw_st vwCl nn_sh nn_kd fw_kv fw_wc (nn_KI6.map (fun x => x.1)) (nn_KJ6.map (fun x => x.1)) (nn_PF6.map (fun x => x.1)) (nn_PS6.map (fun x => x.1)) fk_isTune3 0 nn_dt46 2 1
theorem fs_isTune3_0 {G : fw_K} {R : fw_KR} (hG : fw_cls st_isTune3 R G) {x : Int} {σ : ab_SG} (h : (fw_c x < 0 → (0 ≤ fw_c 0 ∧ fw_c 0 ≤ 1) ∧ R (some (0, 0, 0)) σ) ∧ (0 ≤ fw_c x → (fw_c (σ 3 11) ≤ fw_c x → (0 ≤ fw_c 0 ∧ fw_c 0 ≤ 1) ∧ R (some (0, 0, 0)) σ) ∧ (fw_c x < fw_c (σ 3 11) → (0 ≤ fw_c 1 ∧ fw_c 1 ≤ 1) ∧ R (some (0, 0, 1)) σ))) : G 0 [some (2, 3, 0), some (0, 0, x)] [] σ := fw_on hG [] 200 h
abbrev fk_isNinth : List fw_CR := []
abbrev st_isNinth : fw_K → fw_KR → fw_K := fw_st vwCl nn_sh nn_kd fw_kv fw_wc (nn_KI1.map (fun x => x.1)) (nn_KJ1.map (fun x => x.1)) (nn_PF1.map (fun x => x.1)) (nn_PS1.map (fun x => x.1)) fk_isNinth 0 nn_dt81 1 1
theorem fs_isNinth_0 {G : fw_K} {R : fw_KR} (hG : fw_cls st_isNinth R G) {k : Int} {σ : ab_SG} (h : (fw_c k < 0 → (0 ≤ fw_c 0 ∧ fw_c 0 ≤ 1) ∧ R (some (0, 0, 0)) σ) ∧ (0 ≤ fw_c k → (fw_c 9 < fw_c k → (0 ≤ fw_c 0 ∧ fw_c 0 ≤ 1) ∧ R (some (0, 0, 0)) σ) ∧ (fw_c k ≤ fw_c 9 → (0 ≤ fw_c 1 ∧ fw_c 1 ≤ 1) ∧ R (some (0, 0, 1)) σ))) : G 0 [some (0, 0, k)] [] σ := fw_on hG [] 200 h
abbrev fk_ninth3 : List fw_CR := [(92, 2, false, 0, 0, sp_atc)]
abbrev st_ninth3 : fw_K → fw_KR → fw_K := fw_st vwCl nn_sh nn_kd fw_kv fw_wc (nn_KI6.map (fun x => x.1)) (nn_KJ6.map (fun x => x.1)) (nn_PF6.map (fun x => x.1)) (nn_PS6.map (fun x => x.1)) fk_ninth3 1 nn_dt68 3 0
theorem fs_ninth3_0 {G : fw_K} {R : fw_KR} (hG : fw_cls st_ninth3 R G) {p x : Int} {σ : ab_SG} (h : sp_atc [(2, 9, 0), (0, 0, (p * 9) + x)] σ (fun rv σ2 => G 13 [some (2, 3, 0), some (0, 0, p), some (0, 0, x)] (rv.toList ++ []) σ2)) : G 0 [some (2, 3, 0), some (0, 0, p), some (0, 0, x)] [] σ := fw_on hG [13] 200 h
theorem fs_ninth3_13 {G : fw_K} {R : fw_KR} (hG : fw_cls st_ninth3 R G) {a1 a2 b0 : Int} {σ : ab_SG} (h : R (some (0, 0, b0)) σ) : G 13 [some (2, 3, 0), some (0, 0, a1), some (0, 0, a2)] [(0, 0, b0)] σ := fw_on hG [13] 200 h
abbrev fk_setNinth3 : List fw_CR := [(99, 3, false, 0, 0, sp_putc)]
abbrev st_setNinth3 : fw_K → fw_KR → fw_K := fw_st vwCl nn_sh nn_kd fw_kv fw_wc (nn_KI6.map (fun x => x.1)) (nn_KJ6.map (fun x => x.1)) (nn_PF6.map (fun x => x.1)) (nn_PS6.map (fun x => x.1)) fk_setNinth3 1 nn_dt37 4 4
theorem fs_setNinth3_0 {G : fw_K} {R : fw_KR} (hG : fw_cls st_setNinth3 R G) {p x k : Int} {σ : ab_SG} (h : sp_putc [(2, 9, 0), (0, 0, (p * 9) + x), (0, 0, k)] σ (fun rv σ2 => G 14 [some (2, 3, 0), some (0, 0, p), some (0, 0, x), some (0, 0, k)] (rv.toList ++ []) σ2)) : G 0 [some (2, 3, 0), some (0, 0, p), some (0, 0, x), some (0, 0, k)] [] σ := fw_on hG [14] 200 h
theorem fs_setNinth3_14 {G : fw_K} {R : fw_KR} (hG : fw_cls st_setNinth3 R G) {a1 a2 a3 : Int} {σ : ab_SG} (h : R none σ) : G 14 [some (2, 3, 0), some (0, 0, a1), some (0, 0, a2), some (0, 0, a3)] [] σ := fw_on hG [14] 200 h
abbrev fk_keep : List fw_CR := [(19, 2, true, 6, 1, sp_ninth3), (25, 3, false, 0, 0, sp_putc), (32, 2, false, 0, 0, sp_atc)]
abbrev st_keep : fw_K → fw_KR → fw_K := fw_st vwCl nn_sh nn_kd fw_kv fw_wc (nn_KI7.map (fun x => x.1)) (nn_KJ7.map (fun x => x.1)) (nn_PF7.map (fun x => x.1)) (nn_PS7.map (fun x => x.1)) fk_keep 2 nn_dt131 5 4
theorem fs_keep_0 {G : fw_K} {R : fw_KR} (hG : fw_cls st_keep R G) {p : Int} {σ : ab_SG} (h : (fw_c (σ 85 1) < fw_c 8 → G 50 [some (2, 85, 0), some (2, 3, 0), some (0, 0, p), none, none] [] σ) ∧ (fw_c 8 ≤ fw_c (σ 85 1) → G 11 [some (2, 85, 0), some (2, 3, 0), some (0, 0, p), some (0, 0, 0), none] [] σ)) : G 0 [some (2, 85, 0), some (2, 3, 0), some (0, 0, p), none, none] [] σ := fw_on hG [11, 50, 61, 83, 86, 108, 111, 125] 200 h
theorem fs_keep_50 {G : fw_K} {R : fw_KR} (hG : fw_cls st_keep R G) {a2 : Int} {σ : ab_SG} (h : G 61 [some (2, 85, 0), some (2, 3, 0), some (0, 0, a2), some (0, 0, (σ 85 1) * 11), some (0, 0, 0)] [] σ) : G 50 [some (2, 85, 0), some (2, 3, 0), some (0, 0, a2), none, none] [] σ := fw_on hG [11, 50, 61, 83, 86, 108, 111, 125] 200 h
theorem fs_keep_11 {G : fw_K} {R : fw_KR} (hG : fw_cls st_keep R G) {a2 a3 : Int} {σ : ab_SG} (h : (fw_c ((88 : Nat) : Int) ≤ fw_c (a3 + 11) → G 50 [some (2, 85, 0), some (2, 3, 0), some (0, 0, a2), some (0, 0, a3), none] [] (ab_ups σ 85 1 (fw_c 7))) ∧ (fw_c (a3 + 11) < fw_c ((88 : Nat) : Int) → (0 ≤ fw_c (a3 + 11) ∧ fw_c (a3 + 11) < ((88 : Nat) : Int)) ∧ ((0 ≤ fw_c a3 ∧ fw_c a3 < ((88 : Nat) : Int)) ∧ True ∧ (G 11 [some (2, 85, 0), some (2, 3, 0), some (0, 0, a2), some (0, 0, a3 + 1), none] [] (ab_ups σ 86 (fw_c a3).toNat (fw_c (σ 86 (fw_c (a3 + 11)).toNat))))))) : G 11 [some (2, 85, 0), some (2, 3, 0), some (0, 0, a2), some (0, 0, a3), none] [] σ := fw_on hG [11, 50, 61, 83, 86, 108, 111, 125] 200 h
theorem fs_keep_61 {G : fw_K} {R : fw_KR} (hG : fw_cls st_keep R G) {a2 a3 a4 : Int} {σ : ab_SG} (h : (fw_c 9 ≤ fw_c a4 → sp_atc [(2, 10, 0), (0, 0, a2)] σ (fun rv σ2 => G 108 [some (2, 85, 0), some (2, 3, 0), some (0, 0, a2), some (0, 0, a3), some (0, 0, a4)] (rv.toList ++ [(0, 0, a3 + 9), (2, 86, 0)]) σ2)) ∧ (fw_c a4 < fw_c 9 → sp_ninth3 [(2, 3, 0), (0, 0, a2), (0, 0, a4)] σ (fun rv σ2 => G 83 [some (2, 85, 0), some (2, 3, 0), some (0, 0, a2), some (0, 0, a3), some (0, 0, a4)] (rv.toList ++ [(0, 0, a3 + a4), (2, 86, 0)]) σ2))) : G 61 [some (2, 85, 0), some (2, 3, 0), some (0, 0, a2), some (0, 0, a3), some (0, 0, a4)] [] σ := fw_on hG [11, 50, 61, 83, 86, 108, 111, 125] 200 h
theorem fs_keep_50a {G : fw_K} {R : fw_KR} (hG : fw_cls st_keep R G) {a2 a3 : Int} {σ : ab_SG} (h : G 61 [some (2, 85, 0), some (2, 3, 0), some (0, 0, a2), some (0, 0, (σ 85 1) * 11), some (0, 0, 0)] [] σ) : G 50 [some (2, 85, 0), some (2, 3, 0), some (0, 0, a2), some (0, 0, a3), none] [] σ := fw_on hG [11, 50, 61, 83, 86, 108, 111, 125] 200 h
theorem fs_keep_108 {G : fw_K} {R : fw_KR} (hG : fw_cls st_keep R G) {a2 a3 a4 b0 b1 : Int} {σ : ab_SG} (h : sp_putc [(2, 86, 0), (0, 0, b1), (0, 0, b0)] σ (fun rv σ2 => G 111 [some (2, 85, 0), some (2, 3, 0), some (0, 0, a2), some (0, 0, a3), some (0, 0, a4)] (rv.toList ++ []) σ2)) : G 108 [some (2, 85, 0), some (2, 3, 0), some (0, 0, a2), some (0, 0, a3), some (0, 0, a4)] [(0, 0, b0), (0, 0, b1), (2, 86, 0)] σ := fw_on hG [11, 50, 61, 83, 86, 108, 111, 125] 200 h
theorem fs_keep_83 {G : fw_K} {R : fw_KR} (hG : fw_cls st_keep R G) {a2 a3 a4 b0 b1 : Int} {σ : ab_SG} (h : sp_putc [(2, 86, 0), (0, 0, b1), (0, 0, b0)] σ (fun rv σ2 => G 86 [some (2, 85, 0), some (2, 3, 0), some (0, 0, a2), some (0, 0, a3), some (0, 0, a4)] (rv.toList ++ []) σ2)) : G 83 [some (2, 85, 0), some (2, 3, 0), some (0, 0, a2), some (0, 0, a3), some (0, 0, a4)] [(0, 0, b0), (0, 0, b1), (2, 86, 0)] σ := fw_on hG [11, 50, 61, 83, 86, 108, 111, 125] 200 h
theorem fs_keep_111 {G : fw_K} {R : fw_KR} (hG : fw_cls st_keep R G) {a2 a3 a4 : Int} {σ : ab_SG} (h : sp_putc [(2, 86, 0), (0, 0, (a3 + 9) + 1), (0, 0, a2)] σ (fun rv σ2 => G 125 [some (2, 85, 0), some (2, 3, 0), some (0, 0, a2), some (0, 0, a3), some (0, 0, a4)] (rv.toList ++ []) σ2)) : G 111 [some (2, 85, 0), some (2, 3, 0), some (0, 0, a2), some (0, 0, a3), some (0, 0, a4)] [] σ := fw_on hG [11, 50, 61, 83, 86, 108, 111, 125] 200 h
theorem fs_keep_86 {G : fw_K} {R : fw_KR} (hG : fw_cls st_keep R G) {a2 a3 a4 : Int} {σ : ab_SG} (h : G 61 [some (2, 85, 0), some (2, 3, 0), some (0, 0, a2), some (0, 0, a3), some (0, 0, a4 + 1)] [] σ) : G 86 [some (2, 85, 0), some (2, 3, 0), some (0, 0, a2), some (0, 0, a3), some (0, 0, a4)] [] σ := fw_on hG [11, 50, 61, 83, 86, 108, 111, 125] 200 h
theorem fs_keep_125 {G : fw_K} {R : fw_KR} (hG : fw_cls st_keep R G) {a2 a3 a4 : Int} {σ : ab_SG} (h : R none (ab_ups σ 85 1 (fw_c ((σ 85 1) + 1)))) : G 125 [some (2, 85, 0), some (2, 3, 0), some (0, 0, a2), some (0, 0, a3), some (0, 0, a4)] [] σ := fw_on hG [11, 50, 61, 83, 86, 108, 111, 125] 200 h
abbrev fk_takeBack : List fw_CR := [(25, 3, false, 0, 0, sp_putc), (32, 2, false, 0, 0, sp_atc), (36, 3, true, 6, 1, sp_setNinth3)]
abbrev st_takeBack : fw_K → fw_KR → fw_K := fw_st vwCl nn_sh nn_kd fw_kv fw_wc (nn_KI7.map (fun x => x.1)) (nn_KJ7.map (fun x => x.1)) (nn_PF7.map (fun x => x.1)) (nn_PS7.map (fun x => x.1)) fk_takeBack 2 nn_dt134 5 4
theorem fs_takeBack_0 {G : fw_K} {R : fw_KR} (hG : fw_cls st_takeBack R G) {σ : ab_SG} (h : sp_atc [(2, 86, 0), (0, 0, (((fw_c ((σ 85 1) - 1)) * 11) + 9) + 1)] (ab_ups σ 85 1 (fw_c ((σ 85 1) - 1))) (fun rv σ2 => G 31 [some (2, 85, 0), some (2, 3, 0), some (0, 0, (fw_c ((σ 85 1) - 1)) * 11), none, none] (rv.toList ++ []) σ2)) : G 0 [some (2, 85, 0), some (2, 3, 0), none, none, none] [] σ := fw_on hG [31, 35, 57, 60, 82, 85] 200 h
theorem fs_takeBack_31 {G : fw_K} {R : fw_KR} (hG : fw_cls st_takeBack R G) {a2 b0 : Int} {σ : ab_SG} (h : G 35 [some (2, 85, 0), some (2, 3, 0), some (0, 0, a2), some (0, 0, b0), some (0, 0, 0)] [] σ) : G 31 [some (2, 85, 0), some (2, 3, 0), some (0, 0, a2), none, none] [(0, 0, b0)] σ := fw_on hG [31, 35, 57, 60, 82, 85] 200 h
theorem fs_takeBack_35 {G : fw_K} {R : fw_KR} (hG : fw_cls st_takeBack R G) {a2 a3 a4 : Int} {σ : ab_SG} (h : (fw_c 9 ≤ fw_c a4 → sp_atc [(2, 86, 0), (0, 0, a2 + 9)] σ (fun rv σ2 => G 82 [some (2, 85, 0), some (2, 3, 0), some (0, 0, a2), some (0, 0, a3), some (0, 0, a4)] (rv.toList ++ [(0, 0, a3), (2, 10, 0)]) σ2)) ∧ (fw_c a4 < fw_c 9 → sp_atc [(2, 86, 0), (0, 0, a2 + a4)] σ (fun rv σ2 => G 57 [some (2, 85, 0), some (2, 3, 0), some (0, 0, a2), some (0, 0, a3), some (0, 0, a4)] (rv.toList ++ [(0, 0, a4), (0, 0, a3), (2, 3, 0)]) σ2))) : G 35 [some (2, 85, 0), some (2, 3, 0), some (0, 0, a2), some (0, 0, a3), some (0, 0, a4)] [] σ := fw_on hG [31, 35, 57, 60, 82, 85] 200 h
theorem fs_takeBack_82 {G : fw_K} {R : fw_KR} (hG : fw_cls st_takeBack R G) {a2 a3 a4 b0 b1 : Int} {σ : ab_SG} (h : sp_putc [(2, 10, 0), (0, 0, b1), (0, 0, b0)] σ (fun rv σ2 => G 85 [some (2, 85, 0), some (2, 3, 0), some (0, 0, a2), some (0, 0, a3), some (0, 0, a4)] (rv.toList ++ []) σ2)) : G 82 [some (2, 85, 0), some (2, 3, 0), some (0, 0, a2), some (0, 0, a3), some (0, 0, a4)] [(0, 0, b0), (0, 0, b1), (2, 10, 0)] σ := fw_on hG [31, 35, 57, 60, 82, 85] 200 h
theorem fs_takeBack_57 {G : fw_K} {R : fw_KR} (hG : fw_cls st_takeBack R G) {a2 a3 a4 b0 b1 b2 : Int} {σ : ab_SG} (h : sp_setNinth3 [(2, 3, 0), (0, 0, b2), (0, 0, b1), (0, 0, b0)] σ (fun rv σ2 => G 60 [some (2, 85, 0), some (2, 3, 0), some (0, 0, a2), some (0, 0, a3), some (0, 0, a4)] (rv.toList ++ []) σ2)) : G 57 [some (2, 85, 0), some (2, 3, 0), some (0, 0, a2), some (0, 0, a3), some (0, 0, a4)] [(0, 0, b0), (0, 0, b1), (0, 0, b2), (2, 3, 0)] σ := fw_on hG [31, 35, 57, 60, 82, 85] 200 h
theorem fs_takeBack_85 {G : fw_K} {R : fw_KR} (hG : fw_cls st_takeBack R G) {a2 a3 a4 : Int} {σ : ab_SG} (h : R none σ) : G 85 [some (2, 85, 0), some (2, 3, 0), some (0, 0, a2), some (0, 0, a3), some (0, 0, a4)] [] σ := fw_on hG [31, 35, 57, 60, 82, 85] 200 h
theorem fs_takeBack_60 {G : fw_K} {R : fw_KR} (hG : fw_cls st_takeBack R G) {a2 a3 a4 : Int} {σ : ab_SG} (h : G 35 [some (2, 85, 0), some (2, 3, 0), some (0, 0, a2), some (0, 0, a3), some (0, 0, a4 + 1)] [] σ) : G 60 [some (2, 85, 0), some (2, 3, 0), some (0, 0, a2), some (0, 0, a3), some (0, 0, a4)] [] σ := fw_on hG [31, 35, 57, 60, 82, 85] 200 h
abbrev fk_undo : List fw_CR := [(350, 1, true, 3, 2, sp_takeBack)]
abbrev st_undo : fw_K → fw_KR → fw_K := fw_st vwCl nn_sh nn_kd fw_kv fw_wc (nn_KI1.map (fun x => x.1)) (nn_KJ1.map (fun x => x.1)) (nn_PF1.map (fun x => x.1)) (nn_PS1.map (fun x => x.1)) fk_undo 3 nn_dt133 1 0
theorem fs_undo_0 {G : fw_K} {R : fw_KR} (hG : fw_cls st_undo R G) {σ : ab_SG} (h : (fw_c 1 ≤ fw_c (σ 85 1) → sp_takeBack [(2, 85, 0), (2, 3, 0)] σ (fun rv σ2 => G 24 [some (2, 0, 0)] (rv.toList ++ []) σ2)) ∧ (fw_c (σ 85 1) < fw_c 1 → R (some (0, 0, (-1))) σ)) : G 0 [some (2, 0, 0)] [] σ := fw_on hG [24] 200 h
theorem fs_undo_24 {G : fw_K} {R : fw_KR} (hG : fw_cls st_undo R G) {σ : ab_SG} (h : R (some (0, 0, σ 85 1)) σ) : G 24 [some (2, 0, 0)] [] σ := fw_on hG [24] 200 h
abbrev fk_teach : List fw_CR := [(157, 1, true, 6, 0, sp_isTune3), (173, 1, true, 6, 0, sp_isPerson3), (176, 2, true, 6, 1, sp_ninth3), (232, 1, false, 0, 0, sp_isNinth), (339, 2, true, 3, 2, sp_keep), (343, 3, true, 6, 1, sp_setNinth3)]
abbrev st_teach : fw_K → fw_KR → fw_K := fw_st vwCl nn_sh nn_kd fw_kv fw_wc (nn_KI1.map (fun x => x.1)) (nn_KJ1.map (fun x => x.1)) (nn_PF1.map (fun x => x.1)) (nn_PS1.map (fun x => x.1)) fk_teach 3 nn_dt130 4 1
theorem fs_teach_0 {G : fw_K} {R : fw_KR} (hG : fw_cls st_teach R G) {p x k : Int} {σ : ab_SG} (h : sp_isPerson3 [(2, 3, 0), (0, 0, p)] σ (fun rv σ2 => G 8 [some (2, 0, 0), some (0, 0, p), some (0, 0, x), some (0, 0, k)] (rv.toList ++ []) σ2)) : G 0 [some (2, 0, 0), some (0, 0, p), some (0, 0, x), some (0, 0, k)] [] σ := fw_on hG [8, 19, 26, 38, 56, 66] 200 h
theorem fs_teach_8 {G : fw_K} {R : fw_KR} (hG : fw_cls st_teach R G) {a1 a2 a3 b0 : Int} {σ : ab_SG} (h : (fw_c b0 = 0 → (0 ≤ fw_c 0 ∧ fw_c 0 ≤ 1) ∧ R (some (0, 0, 0)) σ) ∧ (fw_c b0 ≠ 0 → sp_isTune3 [(2, 3, 0), (0, 0, a2)] σ (fun rv σ2 => G 19 [some (2, 0, 0), some (0, 0, a1), some (0, 0, a2), some (0, 0, a3)] (rv.toList ++ []) σ2))) : G 8 [some (2, 0, 0), some (0, 0, a1), some (0, 0, a2), some (0, 0, a3)] [(0, 0, b0)] σ := fw_on hG [8, 19, 26, 38, 56, 66] 200 h
theorem fs_teach_19 {G : fw_K} {R : fw_KR} (hG : fw_cls st_teach R G) {a1 a2 a3 b0 : Int} {σ : ab_SG} (h : (fw_c b0 = 0 → (0 ≤ fw_c 0 ∧ fw_c 0 ≤ 1) ∧ R (some (0, 0, 0)) σ) ∧ (fw_c b0 ≠ 0 → sp_isNinth [(0, 0, a3)] σ (fun rv σ2 => G 26 [some (2, 0, 0), some (0, 0, a1), some (0, 0, a2), some (0, 0, a3)] (rv.toList ++ []) σ2))) : G 19 [some (2, 0, 0), some (0, 0, a1), some (0, 0, a2), some (0, 0, a3)] [(0, 0, b0)] σ := fw_on hG [8, 19, 26, 38, 56, 66] 200 h
theorem fs_teach_26 {G : fw_K} {R : fw_KR} (hG : fw_cls st_teach R G) {a1 a2 a3 b0 : Int} {σ : ab_SG} (h : (fw_c b0 = 0 → (0 ≤ fw_c 0 ∧ fw_c 0 ≤ 1) ∧ R (some (0, 0, 0)) σ) ∧ (fw_c b0 ≠ 0 → sp_ninth3 [(2, 3, 0), (0, 0, a1), (0, 0, a2)] σ (fun rv σ2 => G 38 [some (2, 0, 0), some (0, 0, a1), some (0, 0, a2), some (0, 0, a3)] (rv.toList ++ []) σ2))) : G 26 [some (2, 0, 0), some (0, 0, a1), some (0, 0, a2), some (0, 0, a3)] [(0, 0, b0)] σ := fw_on hG [8, 19, 26, 38, 56, 66] 200 h
theorem fs_teach_38 {G : fw_K} {R : fw_KR} (hG : fw_cls st_teach R G) {a1 a2 a3 b0 : Int} {σ : ab_SG} (h : (fw_c b0 ≠ fw_c a3 → sp_keep [(2, 85, 0), (2, 3, 0), (0, 0, a1)] σ (fun rv σ2 => G 56 [some (2, 0, 0), some (0, 0, a1), some (0, 0, a2), some (0, 0, a3)] (rv.toList ++ []) σ2)) ∧ (fw_c b0 = fw_c a3 → (0 ≤ fw_c 0 ∧ fw_c 0 ≤ 1) ∧ R (some (0, 0, 0)) σ)) : G 38 [some (2, 0, 0), some (0, 0, a1), some (0, 0, a2), some (0, 0, a3)] [(0, 0, b0)] σ := fw_on hG [8, 19, 26, 38, 56, 66] 200 h
theorem fs_teach_56 {G : fw_K} {R : fw_KR} (hG : fw_cls st_teach R G) {a1 a2 a3 : Int} {σ : ab_SG} (h : sp_setNinth3 [(2, 3, 0), (0, 0, a1), (0, 0, a2), (0, 0, a3)] σ (fun rv σ2 => G 66 [some (2, 0, 0), some (0, 0, a1), some (0, 0, a2), some (0, 0, a3)] (rv.toList ++ []) σ2)) : G 56 [some (2, 0, 0), some (0, 0, a1), some (0, 0, a2), some (0, 0, a3)] [] σ := fw_on hG [8, 19, 26, 38, 56, 66] 200 h
theorem fs_teach_66 {G : fw_K} {R : fw_KR} (hG : fw_cls st_teach R G) {a1 a2 a3 : Int} {σ : ab_SG} (h : (0 ≤ fw_c 1 ∧ fw_c 1 ≤ 1) ∧ R (some (0, 0, 1)) σ) : G 66 [some (2, 0, 0), some (0, 0, a1), some (0, 0, a2), some (0, 0, a3)] [] σ := fw_on hG [8, 19, 26, 38, 56, 66] 200 h
abbrev fk_dares : List fw_CR := [(173, 1, true, 6, 0, sp_isPerson3), (180, 2, false, 0, 0, sp_atc), (232, 1, false, 0, 0, sp_isNinth), (339, 2, true, 3, 2, sp_keep), (346, 3, false, 0, 0, sp_putc)]
abbrev st_dares : fw_K → fw_KR → fw_K := fw_st vwCl nn_sh nn_kd fw_kv fw_wc (nn_KI1.map (fun x => x.1)) (nn_KJ1.map (fun x => x.1)) (nn_PF1.map (fun x => x.1)) (nn_PS1.map (fun x => x.1)) fk_dares 3 nn_dt132 3 1
theorem fs_dares_0 {G : fw_K} {R : fw_KR} (hG : fw_cls st_dares R G) {p k : Int} {σ : ab_SG} (h : sp_isPerson3 [(2, 3, 0), (0, 0, p)] σ (fun rv σ2 => G 8 [some (2, 0, 0), some (0, 0, p), some (0, 0, k)] (rv.toList ++ []) σ2)) : G 0 [some (2, 0, 0), some (0, 0, p), some (0, 0, k)] [] σ := fw_on hG [8, 15, 29, 47, 59] 200 h
theorem fs_dares_8 {G : fw_K} {R : fw_KR} (hG : fw_cls st_dares R G) {a1 a2 b0 : Int} {σ : ab_SG} (h : (fw_c b0 = 0 → (0 ≤ fw_c 0 ∧ fw_c 0 ≤ 1) ∧ R (some (0, 0, 0)) σ) ∧ (fw_c b0 ≠ 0 → sp_isNinth [(0, 0, a2)] σ (fun rv σ2 => G 15 [some (2, 0, 0), some (0, 0, a1), some (0, 0, a2)] (rv.toList ++ []) σ2))) : G 8 [some (2, 0, 0), some (0, 0, a1), some (0, 0, a2)] [(0, 0, b0)] σ := fw_on hG [8, 15, 29, 47, 59] 200 h
theorem fs_dares_15 {G : fw_K} {R : fw_KR} (hG : fw_cls st_dares R G) {a1 a2 b0 : Int} {σ : ab_SG} (h : (fw_c b0 = 0 → (0 ≤ fw_c 0 ∧ fw_c 0 ≤ 1) ∧ R (some (0, 0, 0)) σ) ∧ (fw_c b0 ≠ 0 → sp_atc [(2, 10, 0), (0, 0, a1)] σ (fun rv σ2 => G 29 [some (2, 0, 0), some (0, 0, a1), some (0, 0, a2)] (rv.toList ++ []) σ2))) : G 15 [some (2, 0, 0), some (0, 0, a1), some (0, 0, a2)] [(0, 0, b0)] σ := fw_on hG [8, 15, 29, 47, 59] 200 h
theorem fs_dares_29 {G : fw_K} {R : fw_KR} (hG : fw_cls st_dares R G) {a1 a2 b0 : Int} {σ : ab_SG} (h : (fw_c b0 ≠ fw_c a2 → sp_keep [(2, 85, 0), (2, 3, 0), (0, 0, a1)] σ (fun rv σ2 => G 47 [some (2, 0, 0), some (0, 0, a1), some (0, 0, a2)] (rv.toList ++ []) σ2)) ∧ (fw_c b0 = fw_c a2 → (0 ≤ fw_c 0 ∧ fw_c 0 ≤ 1) ∧ R (some (0, 0, 0)) σ)) : G 29 [some (2, 0, 0), some (0, 0, a1), some (0, 0, a2)] [(0, 0, b0)] σ := fw_on hG [8, 15, 29, 47, 59] 200 h
theorem fs_dares_47 {G : fw_K} {R : fw_KR} (hG : fw_cls st_dares R G) {a1 a2 : Int} {σ : ab_SG} (h : sp_putc [(2, 10, 0), (0, 0, a1), (0, 0, a2)] σ (fun rv σ2 => G 59 [some (2, 0, 0), some (0, 0, a1), some (0, 0, a2)] (rv.toList ++ []) σ2)) : G 47 [some (2, 0, 0), some (0, 0, a1), some (0, 0, a2)] [] σ := fw_on hG [8, 15, 29, 47, 59] 200 h
theorem fs_dares_59 {G : fw_K} {R : fw_KR} (hG : fw_cls st_dares R G) {a1 a2 : Int} {σ : ab_SG} (h : (0 ≤ fw_c 1 ∧ fw_c 1 ≤ 1) ∧ R (some (0, 0, 1)) σ) : G 59 [some (2, 0, 0), some (0, 0, a1), some (0, 0, a2)] [] σ := fw_on hG [8, 15, 29, 47, 59] 200 h
section
variable {l : Launch} {cy : Nat → ClassId} {ad wr cr : Nat → Nat} {D : va_G}
theorem fm_at9 (hinj : nn_inj ad) : fw_H l cy ad wr cr D 29 0 (at_k 9 45) := fw_mk hinj (⟨"NameNotes", "at", "([II)I"⟩, prog_1_method_84_code, 2, (Option.some Jvm.ClassFile.FieldType.int), 2, false, 0) rfl rfl nn_KI1_ok nn_KJ1_ok nn_PF1_ok nn_PS1_ok (by decide +kernel) rfl rfl (fun _ h => absurd h List.not_mem_nil) (fun as σ K h => by
  obtain ⟨x, rfl, h1, h2⟩ := h
  exact ⟨rfl, fun G hG => at_gen (k := 9) (n := 45) (K := K) (σ := σ) (x := x) (by decide) (fs_at9_0 hG) h1 h2⟩)
theorem fm_put9 (hinj : nn_inj ad) : fw_H l cy ad wr cr D 27 0 (put_k 9 45) := fw_mk hinj (⟨"NameNotes", "put", "([III)V"⟩, prog_1_method_86_code, 3, (Option.none : Option Jvm.ClassFile.FieldType), 3, false, 4) rfl rfl nn_KI1_ok nn_KJ1_ok nn_PF1_ok nn_PS1_ok (by decide +kernel) rfl rfl (fun _ h => absurd h List.not_mem_nil) (fun as σ K h => by
  obtain ⟨x, v, rfl, h1, h2⟩ := h
  exact ⟨rfl, fun G hG => put_gen (k := 9) (n := 45) (K := K) (σ := σ) (x := x) (c := fw_c v) (by decide) (fs_put9_0 hG) h1 h2⟩)
theorem fm_at10 (hinj : nn_inj ad) : fw_H l cy ad wr cr D 29 0 (at_k 10 5) := fw_mk hinj (⟨"NameNotes", "at", "([II)I"⟩, prog_1_method_84_code, 2, (Option.some Jvm.ClassFile.FieldType.int), 2, false, 0) rfl rfl nn_KI1_ok nn_KJ1_ok nn_PF1_ok nn_PS1_ok (by decide +kernel) rfl rfl (fun _ h => absurd h List.not_mem_nil) (fun as σ K h => by
  obtain ⟨x, rfl, h1, h2⟩ := h
  exact ⟨rfl, fun G hG => at_gen (k := 10) (n := 5) (K := K) (σ := σ) (x := x) (by decide) (fs_at10_0 hG) h1 h2⟩)
theorem fm_put10 (hinj : nn_inj ad) : fw_H l cy ad wr cr D 27 0 (put_k 10 5) := fw_mk hinj (⟨"NameNotes", "put", "([III)V"⟩, prog_1_method_86_code, 3, (Option.none : Option Jvm.ClassFile.FieldType), 3, false, 4) rfl rfl nn_KI1_ok nn_KJ1_ok nn_PF1_ok nn_PS1_ok (by decide +kernel) rfl rfl (fun _ h => absurd h List.not_mem_nil) (fun as σ K h => by
  obtain ⟨x, v, rfl, h1, h2⟩ := h
  exact ⟨rfl, fun G hG => put_gen (k := 10) (n := 5) (K := K) (σ := σ) (x := x) (c := fw_c v) (by decide) (fs_put10_0 hG) h1 h2⟩)
theorem fm_at86 (hinj : nn_inj ad) : fw_H l cy ad wr cr D 29 0 (at_k 86 88) := fw_mk hinj (⟨"NameNotes", "at", "([II)I"⟩, prog_1_method_84_code, 2, (Option.some Jvm.ClassFile.FieldType.int), 2, false, 0) rfl rfl nn_KI1_ok nn_KJ1_ok nn_PF1_ok nn_PS1_ok (by decide +kernel) rfl rfl (fun _ h => absurd h List.not_mem_nil) (fun as σ K h => by
  obtain ⟨x, rfl, h1, h2⟩ := h
  exact ⟨rfl, fun G hG => at_gen (k := 86) (n := 88) (K := K) (σ := σ) (x := x) (by decide) (fs_at86_0 hG) h1 h2⟩)
theorem fm_put86 (hinj : nn_inj ad) : fw_H l cy ad wr cr D 27 0 (put_k 86 88) := fw_mk hinj (⟨"NameNotes", "put", "([III)V"⟩, prog_1_method_86_code, 3, (Option.none : Option Jvm.ClassFile.FieldType), 3, false, 4) rfl rfl nn_KI1_ok nn_KJ1_ok nn_PF1_ok nn_PS1_ok (by decide +kernel) rfl rfl (fun _ h => absurd h List.not_mem_nil) (fun as σ K h => by
  obtain ⟨x, v, rfl, h1, h2⟩ := h
  exact ⟨rfl, fun G hG => put_gen (k := 86) (n := 88) (K := K) (σ := σ) (x := x) (c := fw_c v) (by decide) (fs_put86_0 hG) h1 h2⟩)
theorem fm_atc (hinj : nn_inj ad) : fw_H l cy ad wr cr D 29 0 sp_atc := fw_H_of (List.forall_mem_cons.mpr ⟨fm_at9 hinj, (List.forall_mem_cons.mpr ⟨fm_at10 hinj, (List.forall_mem_cons.mpr ⟨fm_at86 hinj, (fun _ h => absurd h List.not_mem_nil)⟩)⟩)⟩)
theorem fm_putc (hinj : nn_inj ad) : fw_H l cy ad wr cr D 27 0 sp_putc := fw_H_of (List.forall_mem_cons.mpr ⟨fm_put9 hinj, (List.forall_mem_cons.mpr ⟨fm_put10 hinj, (List.forall_mem_cons.mpr ⟨fm_put86 hinj, (fun _ h => absurd h List.not_mem_nil)⟩)⟩)⟩)
theorem fm_isPerson3 (hinj : nn_inj ad) : fw_H l cy ad wr cr D 67 0 sp_isPerson3 := fw_mk hinj (⟨"NameNotes$Studio", "isPerson", "(I)Z"⟩, prog_8_method_6_code, 2, (Option.some Jvm.ClassFile.FieldType.boolean), 1, true, 1) rfl rfl nn_KI6_ok nn_KJ6_ok nn_PF6_ok nn_PS6_ok (by decide +kernel) rfl rfl (fun _ h => absurd h List.not_mem_nil) (fun as σ K h => by
  obtain ⟨p, rfl, h⟩ := h
  refine ⟨rfl, fun G hG => fs_isPerson3_0 hG ?_⟩
  unfold c_pe at h
  refine ⟨fun q => ⟨fw_01, ?_⟩, fun q => ⟨fun q2 => ⟨fw_01, ?_⟩, fun q2 => ⟨by rw [fw_c1]; decide, ?_⟩⟩⟩
  · rw [m_b0 (fun z => by omega)] at h; exact h
  · rw [m_b0 (fun z => by omega)] at h; exact h
  · rw [m_b1 q q2] at h; exact h)
theorem fm_isTune3 (hinj : nn_inj ad) : fw_H l cy ad wr cr D 46 0 sp_isTune3 := fw_mk hinj (⟨"NameNotes$Studio", "isTune", "(I)Z"⟩, prog_8_method_4_code, 2, (Option.some Jvm.ClassFile.FieldType.boolean), 1, true, 1) rfl rfl nn_KI6_ok nn_KJ6_ok nn_PF6_ok nn_PS6_ok (by decide +kernel) rfl rfl (fun _ h => absurd h List.not_mem_nil) (fun as σ K h => by
  obtain ⟨p, rfl, h⟩ := h
  refine ⟨rfl, fun G hG => fs_isTune3_0 hG ?_⟩
  unfold c_tu at h
  refine ⟨fun q => ⟨fw_01, ?_⟩, fun q => ⟨fun q2 => ⟨fw_01, ?_⟩, fun q2 => ⟨by rw [fw_c1]; decide, ?_⟩⟩⟩
  · rw [m_b0 (fun z => by omega)] at h; exact h
  · rw [m_b0 (fun z => by omega)] at h; exact h
  · rw [m_b1 q q2] at h; exact h)
theorem fm_isNinth (hinj : nn_inj ad) : fw_H l cy ad wr cr D 81 0 sp_isNinth := fw_mk hinj (⟨"NameNotes", "isNinth", "(I)Z"⟩, prog_1_method_75_code, 1, (Option.some Jvm.ClassFile.FieldType.boolean), 1, false, 1) rfl rfl nn_KI1_ok nn_KJ1_ok nn_PF1_ok nn_PS1_ok (by decide +kernel) rfl rfl (fun _ h => absurd h List.not_mem_nil) (fun as σ K h => by
  obtain ⟨p, rfl, h⟩ := h
  refine ⟨rfl, fun G hG => fs_isNinth_0 hG ?_⟩
  rw [fw_c_id (x := 9) (by decide) (by decide)]
  refine ⟨fun q => ⟨fw_01, ?_⟩, fun q => ⟨fun q2 => ⟨fw_01, ?_⟩, fun q2 => ⟨by rw [fw_c1]; decide, ?_⟩⟩⟩
  · rw [m_b0 (fun z => by omega)] at h; exact h
  · rw [m_b0 (fun z => by omega)] at h; exact h
  · rw [m_b1 q q2] at h; exact h)
theorem fm_ninth3 (hinj : nn_inj ad) : fw_H l cy ad wr cr D 68 1 sp_ninth3 := fw_mk hinj (⟨"NameNotes$Studio", "ninth", "(II)I"⟩, prog_8_method_13_code, 3, (Option.some Jvm.ClassFile.FieldType.int), 2, true, 0) rfl rfl nn_KI6_ok nn_KJ6_ok nn_PF6_ok nn_PS6_ok (by decide +kernel) rfl rfl (List.forall_mem_cons.mpr ⟨fw_row nn_PM6_ok (x := 92) (k := 2) (mn := 29) (np := 2) (ob := false) (ci := 0) (⟨"NameNotes", "at", "([II)I"⟩, prog_1_method_84_code, 2, (Option.some Jvm.ClassFile.FieldType.int), 2, false, 0) rfl (by decide +kernel) rfl rfl (by decide) (fun q => by cases q) (fm_atc hinj), (fun _ h => absurd h List.not_mem_nil)⟩) (fun as σ K h => by
  obtain ⟨p, x, rfl, hp, hx, h⟩ := h
  have e : fw_c ((p : Int) * 9 + (x : Int)) = ((9 * p + x : Nat) : Int) := by rw [fw_c_id (by omega) (by omega)]; omega
  refine ⟨rfl, fun G hG => fs_ninth3_0 hG ⟨(9, 45), by decide, _, rfl, fun _ => fs_ninth3_13 hG ?_, fun z => absurd (by rw [e]; exact ⟨Int.natCast_nonneg _, by omega⟩) z⟩⟩
  rw [e, Int.toNat_natCast]
  exact h)
theorem fm_setNinth3 (hinj : nn_inj ad) : fw_H l cy ad wr cr D 37 1 sp_setNinth3 := fw_mk hinj (⟨"NameNotes$Studio", "setNinth", "(III)V"⟩, prog_8_method_14_code, 4, (Option.none : Option Jvm.ClassFile.FieldType), 3, true, 4) rfl rfl nn_KI6_ok nn_KJ6_ok nn_PF6_ok nn_PS6_ok (by decide +kernel) rfl rfl (List.forall_mem_cons.mpr ⟨fw_row nn_PM6_ok (x := 99) (k := 2) (mn := 27) (np := 3) (ob := false) (ci := 0) (⟨"NameNotes", "put", "([III)V"⟩, prog_1_method_86_code, 3, (Option.none : Option Jvm.ClassFile.FieldType), 3, false, 4) rfl (by decide +kernel) rfl rfl (by decide) (fun q => by cases q) (fm_putc hinj), (fun _ h => absurd h List.not_mem_nil)⟩) (fun as σ K h => by
  obtain ⟨p, x, k, rfl, hp, hx, h⟩ := h
  have e : fw_c ((p : Int) * 9 + (x : Int)) = ((9 * p + x : Nat) : Int) := by rw [fw_c_id (by omega) (by omega)]; omega
  refine ⟨rfl, fun G hG => fs_setNinth3_0 hG ⟨(9, 45), by decide, _, _, rfl, fun _ => fs_setNinth3_14 hG ?_, fun z => absurd (by rw [e]; exact ⟨Int.natCast_nonneg _, by omega⟩) z⟩⟩
  rw [e, Int.toNat_natCast]
  exact h)
theorem fm_keep (hinj : nn_inj ad) : fw_H l cy ad wr cr D 131 2 sp_keep := fw_mk hinj (⟨"NameNotes$Journal", "keep", "(LNameNotes$Studio;I)V"⟩, prog_5_method_2_code, 5, (Option.none : Option Jvm.ClassFile.FieldType), 2, true, 4) rfl rfl nn_KI7_ok nn_KJ7_ok nn_PF7_ok nn_PS7_ok (by decide +kernel) rfl rfl (List.forall_mem_cons.mpr ⟨fw_row nn_PM7_ok (x := 19) (k := 0) (mn := 68) (np := 2) (ob := true) (ci := 6) (⟨"NameNotes$Studio", "ninth", "(II)I"⟩, prog_8_method_13_code, 3, (Option.some Jvm.ClassFile.FieldType.int), 2, true, 0) rfl (by decide +kernel) rfl rfl (by decide) (fun _ => ⟨_, _, rfl⟩) (fm_ninth3 hinj), (List.forall_mem_cons.mpr ⟨fw_row nn_PM7_ok (x := 25) (k := 2) (mn := 27) (np := 3) (ob := false) (ci := 0) (⟨"NameNotes", "put", "([III)V"⟩, prog_1_method_86_code, 3, (Option.none : Option Jvm.ClassFile.FieldType), 3, false, 4) rfl (by decide +kernel) rfl rfl (by decide) (fun q => by cases q) (fm_putc hinj), (List.forall_mem_cons.mpr ⟨fw_row nn_PM7_ok (x := 32) (k := 2) (mn := 29) (np := 2) (ob := false) (ci := 0) (⟨"NameNotes", "at", "([II)I"⟩, prog_1_method_84_code, 2, (Option.some Jvm.ClassFile.FieldType.int), 2, false, 0) rfl (by decide +kernel) rfl rfl (by decide) (fun q => by cases q) (fm_atc hinj), (fun _ h => absurd h List.not_mem_nil)⟩)⟩)⟩) (fun as σ K h => by
  obtain ⟨p, rfl, hp, hs, h⟩ := h
  have e8 : fw_c 8 = 8 := fw_c_id (by decide) (by decide)
  have e9 : fw_c 9 = 9 := fw_c_id (by decide) (by decide)
  have e88 : fw_c ((88 : Nat) : Int) = 88 := fw_c_id (by decide) (by decide)
  have ep : fw_c (p : Int) = (p : Int) := fw_c_id (by omega) (by omega)
  have e24 : fw_c (σ 85 1) = σ 85 1 := fw_c_id (by omega) (by omega)
  refine ⟨rfl, fun G hG => fs_keep_0 hG ?_⟩
  have key2 : ∀ (n : Nat) (τ0 : ab_SG), n < 8 → τ0 85 1 = (n : Int) → (∀ σ' : ab_SG, ab_okM kj_M τ0 σ' → σ' 85 1 = (n : Int) + 1 → (∀ j : Nat, j < 11 * n → σ' 86 j = τ0 86 j) → kj_row τ0 σ' n p → K none σ') →
      ∀ (f i : Nat) (τ : ab_SG), i + f = 9 → ab_okM [(86, 1000000)] τ0 τ → (∀ j : Nat, j < 11 * n → τ 86 j = τ0 86 j) → (∀ j : Nat, j < i → τ 86 (11 * n + j) = fw_c (τ0 9 (9 * p + j))) → G 61 [some (2, 85, 0), some (2, 3, 0), some (0, 0, (p : Int)), some (0, 0, (n : Int) * 11), some (0, 0, (i : Int))] [] τ := by
    intro n τ0 hn h24 hk f
    induction f with
    | zero =>
      intro i τ hi M a1 a2
      have ei : fw_c (i : Int) = i := fw_c_id (by omega) (by omega)
      have k24 : τ 85 1 = (n : Int) := (M 85 1 (by decide)).trans h24
      have f9 : fw_c ((n : Int) * 11 + 9) = ((11 * n + 9 : Nat) : Int) := by rw [fw_c_id (by omega) (by omega)]; omega
      have f10 : fw_c ((n : Int) * 11 + 9 + 1) = ((11 * n + 10 : Nat) : Int) := by rw [fw_c_id (by omega) (by omega)]; omega
      refine fs_keep_61 hG ?_
      rw [ei, e9]
      refine ⟨fun _ => ⟨(10, 5), by decide, _, rfl, fun _ => fs_keep_108 hG ⟨(86, 88), by decide, _, _, rfl, fun _ => fs_keep_111 hG ⟨(86, 88), by decide, _, _, rfl, fun _ => fs_keep_125 hG ?_, fun z => absurd (by rw [f10]; exact ⟨Int.natCast_nonneg _, by omega⟩) z⟩, fun z => absurd (by rw [f9]; exact ⟨Int.natCast_nonneg _, by omega⟩) z⟩, fun z => absurd (by rw [ep]; exact ⟨Int.natCast_nonneg _, by omega⟩) z⟩, fun z => absurd z (by omega)⟩
      rw [f9, f10, ep, Int.toNat_natCast, Int.toNat_natCast, Int.toNat_natCast, show τ 10 = τ0 10 from fw_okM_c M (by decide)]
      rw [ab_ups_ne (k := 86) (a := 85) (fun z => absurd z.1 (by decide)), ab_ups_ne (k := 86) (a := 85) (fun z => absurd z.1 (by decide)), k24]
      refine hk _ (fw_okM_ups (fw_okM_upa (fw_okM_upa (fw_okM_tr (fw_okM_refl _ _) M (by decide)) (by decide)) (by decide)) (by decide)) (ab_ups_eq.trans (fw_c_id (by omega) (by omega))) (fun j hj => ?_) ⟨fun x hx => ?_, ?_, ?_⟩
      · rw [ab_ups_ne (fun z => absurd z.1 (by decide)), ab_ups_ne (fun z => by omega), ab_ups_ne (fun z => by omega)]; exact a1 j hj
      · rw [ab_ups_ne (fun z => absurd z.1 (by decide)), ab_ups_ne (fun z => by omega), ab_ups_ne (fun z => by omega)]; exact a2 x (by omega)
      · rw [ab_ups_ne (fun z => absurd z.1 (by decide)), ab_ups_ne (fun z => by omega), ab_ups_eq]
      · rw [ab_ups_ne (fun z => absurd z.1 (by decide)), ab_ups_eq]
    | succ f ih =>
      intro i τ hi M a1 a2
      have ei : fw_c (i : Int) = i := fw_c_id (by omega) (by omega)
      have ej : fw_c ((n : Int) * 11 + (i : Int)) = ((11 * n + i : Nat) : Int) := by rw [fw_c_id (by omega) (by omega)]; omega
      refine fs_keep_61 hG ?_
      rw [ei, e9]
      refine ⟨fun z => absurd z (by omega), fun _ => ⟨p, i, rfl, hp, by omega, fs_keep_83 hG ⟨(86, 88), by decide, _, _, rfl, fun _ => fs_keep_86 hG ?_, fun z => absurd (by rw [ej]; exact ⟨Int.natCast_nonneg _, by omega⟩) z⟩⟩⟩
      rw [ej, Int.toNat_natCast, show τ 9 = τ0 9 from fw_okM_c M (by decide)]
      refine ih (i + 1) _ (by omega) (fw_okM_upa M (by decide)) (fun j hj => ?_) (fun j hj => ?_)
      · rw [ab_ups_ne (fun z => by omega)]; exact a1 j hj
      · by_cases c : j = i
        · rw [c, ab_ups_eq]
        · rw [ab_ups_ne (fun z => by omega)]; exact a2 j (by omega)
  rw [e24, e8]
  refine ⟨fun q => ?_, fun q => ?_⟩
  · obtain ⟨n, hn⟩ := Int.eq_ofNat_of_zero_le hs.1
    refine fs_keep_50 hG ?_
    rw [hn]
    refine key2 n σ (by omega) hn (fun σ' M a b c => h σ' ⟨M, fun n' hn' _ => ?_, fun z => absurd z (by omega)⟩) 9 0 σ rfl (fw_okM_refl _ _) (fun _ _ => rfl) (fun j hj => absurd hj (Nat.not_lt_zero _))
    have : n' = n := by omega
    subst this
    exact ⟨a, b, c⟩
  · have key1 : ∀ (f i : Nat) (τ : ab_SG), i + f = 77 → ab_okM [(86, 1000000)] σ τ → (∀ j : Nat, j < i → τ 86 j = fw_c (σ 86 (j + 11))) → (∀ j : Nat, i ≤ j → τ 86 j = σ 86 j) → G 11 [some (2, 85, 0), some (2, 3, 0), some (0, 0, (p : Int)), some (0, 0, (i : Int)), none] [] τ := by
      intro f
      induction f with
      | zero =>
        intro i τ hi M a1 a2
        have ei : fw_c ((i : Int) + 11) = ((i + 11 : Nat) : Int) := by rw [fw_c_id (by omega) (by omega)]; omega
        have e7 : fw_c 7 = 7 := fw_c_id (by decide) (by decide)
        refine fs_keep_11 hG ?_
        rw [ei, e88, e7]
        refine ⟨fun _ => fs_keep_50a hG ?_, fun z => absurd z (by omega)⟩
        rw [ab_ups_eq]
        refine key2 7 _ (by decide) ab_ups_eq (fun σ' M2 a b c => h σ' ⟨?_, fun n' hn' z => absurd z (by omega), fun _ => ⟨a, fun j hj => ?_, ?_⟩⟩) 9 0 _ rfl (fw_okM_refl _ _) (fun _ _ => rfl) (fun j hj => absurd hj (Nat.not_lt_zero _))
        · exact fw_okM_tr (fw_okM_ups (fw_okM_tr (fw_okM_refl _ _) M (by decide)) (by decide)) M2 (fun _ h => h)
        · rw [b j (by omega), ab_ups_ne (fun z => absurd z.1 (by decide))]; exact a1 j (by omega)
        · obtain ⟨c1, c2, c3⟩ := c
          refine ⟨fun x hx => ?_, ?_, c3⟩
          · rw [c1 x hx, ab_ups_ne (fun z => absurd z.1 (by decide)), show τ 9 = σ 9 from fw_okM_c M (by decide)]
          · rw [c2, ab_ups_ne (fun z => absurd z.1 (by decide)), show τ 10 = σ 10 from fw_okM_c M (by decide)]
      | succ f ih =>
        intro i τ hi M a1 a2
        have ei : fw_c ((i : Int) + 11) = ((i + 11 : Nat) : Int) := by rw [fw_c_id (by omega) (by omega)]; omega
        have ej : fw_c (i : Int) = i := fw_c_id (by omega) (by omega)
        refine fs_keep_11 hG ?_
        rw [ei, ej, e88, Int.toNat_natCast, Int.toNat_natCast, a2 (i + 11) (by omega)]
        refine ⟨fun z => absurd z (by omega), fun _ => ⟨⟨Int.natCast_nonneg _, by omega⟩, ⟨Int.natCast_nonneg _, by omega⟩, trivial, ?_⟩⟩
        exact ih (i + 1) _ (by omega) (fw_okM_upa M (by decide)) (fun j hj => by
          by_cases c : j = i
          · rw [c, ab_ups_eq]
          · rw [ab_ups_ne (fun z => by omega)]; exact a1 j (by omega)) (fun j hj => by rw [ab_ups_ne (fun z => by omega)]; exact a2 j (by omega))
    exact key1 77 0 σ rfl (fw_okM_refl _ _) (fun j hj => absurd hj (Nat.not_lt_zero _)) (fun _ _ => rfl))
theorem fm_takeBack (hinj : nn_inj ad) : fw_H l cy ad wr cr D 134 2 sp_takeBack := fw_mk hinj (⟨"NameNotes$Journal", "takeBack", "(LNameNotes$Studio;)V"⟩, prog_5_method_3_code, 5, (Option.none : Option Jvm.ClassFile.FieldType), 1, true, 4) rfl rfl nn_KI7_ok nn_KJ7_ok nn_PF7_ok nn_PS7_ok (by decide +kernel) rfl rfl (List.forall_mem_cons.mpr ⟨fw_row nn_PM7_ok (x := 25) (k := 2) (mn := 27) (np := 3) (ob := false) (ci := 0) (⟨"NameNotes", "put", "([III)V"⟩, prog_1_method_86_code, 3, (Option.none : Option Jvm.ClassFile.FieldType), 3, false, 4) rfl (by decide +kernel) rfl rfl (by decide) (fun q => by cases q) (fm_putc hinj), (List.forall_mem_cons.mpr ⟨fw_row nn_PM7_ok (x := 32) (k := 2) (mn := 29) (np := 2) (ob := false) (ci := 0) (⟨"NameNotes", "at", "([II)I"⟩, prog_1_method_84_code, 2, (Option.some Jvm.ClassFile.FieldType.int), 2, false, 0) rfl (by decide +kernel) rfl rfl (by decide) (fun q => by cases q) (fm_atc hinj), (List.forall_mem_cons.mpr ⟨fw_row nn_PM7_ok (x := 36) (k := 0) (mn := 37) (np := 3) (ob := true) (ci := 6) (⟨"NameNotes$Studio", "setNinth", "(III)V"⟩, prog_8_method_14_code, 4, (Option.none : Option Jvm.ClassFile.FieldType), 3, true, 4) rfl (by decide +kernel) rfl rfl (by decide) (fun _ => ⟨_, _, rfl⟩) (fm_setNinth3 hinj), (fun _ h => absurd h List.not_mem_nil)⟩)⟩)⟩) (fun as σ K h => by
  obtain ⟨rfl, n, p, h1, hn, hp, h2, h⟩ := h
  have e9 : fw_c 9 = 9 := fw_c_id (by decide) (by decide)
  have ep : fw_c (p : Int) = (p : Int) := fw_c_id (by omega) (by omega)
  have en : fw_c (σ 85 1 - 1) = (n : Int) := by rw [h1, fw_c_id (by omega) (by omega)]; omega
  have f10 : fw_c ((n : Int) * 11 + 9 + 1) = ((11 * n + 10 : Nat) : Int) := by rw [fw_c_id (by omega) (by omega)]; omega
  have f9 : fw_c ((n : Int) * 11 + 9) = ((11 * n + 9 : Nat) : Int) := by rw [fw_c_id (by omega) (by omega)]; omega
  have key : ∀ (G : fw_K), fw_cls st_takeBack K G → ∀ (f i : Nat) (τ : ab_SG), i + f = 9 → ab_okM tk_M σ τ → τ 85 1 = (n : Int) → (∀ j : Nat, (j < 9 * p ∨ 9 * p + i ≤ j) → τ 9 j = σ 9 j) → (∀ x : Nat, x < i → τ 9 (9 * p + x) = fw_c (σ 86 (11 * n + x))) → τ 10 = σ 10 → τ 86 = σ 86 → G 35 [some (2, 85, 0), some (2, 3, 0), some (0, 0, (n : Int) * 11), some (0, 0, (p : Int)), some (0, 0, (i : Int))] [] τ := by
    intro G hG f
    induction f with
    | zero =>
      intro i τ hi M k1 a1 a2 a3 a4
      have ei : fw_c (i : Int) = i := fw_c_id (by omega) (by omega)
      refine fs_takeBack_35 hG ?_
      rw [ei, e9]
      refine ⟨fun _ => ⟨(86, 88), by decide, _, rfl, fun _ => fs_takeBack_82 hG ⟨(10, 5), by decide, _, _, rfl, fun _ => fs_takeBack_85 hG ?_, fun z => absurd (by rw [ep]; exact ⟨Int.natCast_nonneg _, by omega⟩) z⟩, fun z => absurd (by rw [f9]; exact ⟨Int.natCast_nonneg _, by omega⟩) z⟩, fun z => absurd z (by omega)⟩
      rw [f9, ep, Int.toNat_natCast, Int.toNat_natCast, a4]
      refine h _ ⟨fw_okM_upa M (by decide), ?_, fun j hj => ?_, fun x hx => ?_, ab_ups_eq, fun j hj => ?_⟩
      · rw [ab_ups_ne (fun z => absurd z.1 (by decide))]; exact k1
      · rw [ab_ups_ne (fun z => absurd z.1 (by decide))]; exact a1 j (by omega)
      · rw [ab_ups_ne (fun z => absurd z.1 (by decide))]; exact a2 x (by omega)
      · rw [ab_ups_ne (fun z => hj z.2), a3]
    | succ f ih =>
      intro i τ hi M k1 a1 a2 a3 a4
      have ei : fw_c (i : Int) = i := fw_c_id (by omega) (by omega)
      have ej : fw_c ((n : Int) * 11 + (i : Int)) = ((11 * n + i : Nat) : Int) := by rw [fw_c_id (by omega) (by omega)]; omega
      refine fs_takeBack_35 hG ?_
      rw [ei, e9]
      refine ⟨fun z => absurd z (by omega), fun _ => ⟨(86, 88), by decide, _, rfl, fun _ => fs_takeBack_57 hG ⟨p, i, _, rfl, hp, by omega, fs_takeBack_60 hG ?_⟩, fun z => absurd (by rw [ej]; exact ⟨Int.natCast_nonneg _, by omega⟩) z⟩⟩
      rw [ej, Int.toNat_natCast, a4]
      refine ih (i + 1) _ (by omega) (fw_okM_upa M (by decide)) ?_ (fun j hj => ?_) (fun x hx => ?_) ?_ ?_
      · rw [ab_ups_ne (fun z => absurd z.1 (by decide))]; exact k1
      · rw [ab_ups_ne (fun z => by omega)]; exact a1 j (by omega)
      · by_cases c : x = i
        · rw [c, ab_ups_eq]
        · rw [ab_ups_ne (fun z => by omega)]; exact a2 x (by omega)
      · rw [ab_ups_row (by decide)]; exact a3
      · rw [ab_ups_row (by decide)]; exact a4
  refine ⟨rfl, fun G hG => fs_takeBack_0 hG ?_⟩
  rw [en]
  refine ⟨(86, 88), by decide, _, rfl, fun _ => fs_takeBack_31 hG ?_, fun z => absurd (by rw [f10]; exact ⟨Int.natCast_nonneg _, by omega⟩) z⟩
  rw [f10, Int.toNat_natCast, show ab_ups σ 85 1 (n : Int) 86 (11 * n + 10) = (p : Int) from (ab_ups_ne (fun z => absurd z.1 (by decide))).trans h2]
  exact key G hG 9 0 _ rfl (fw_okM_ups (fw_okM_refl _ _) (by decide)) ab_ups_eq (fun j _ => ab_ups_ne (fun z => absurd z.1 (by decide))) (fun j hj => absurd hj (Nat.not_lt_zero _)) (ab_ups_row (by decide)) (ab_ups_row (by decide)))
theorem fm_undo (hinj : nn_inj ad) : fw_H l cy ad wr cr D 133 3 sp_undo := fw_mk hinj (⟨"NameNotes", "undo", "()I"⟩, prog_1_method_34_code, 1, (Option.some Jvm.ClassFile.FieldType.int), 0, true, 0) rfl rfl nn_KI1_ok nn_KJ1_ok nn_PF1_ok nn_PS1_ok (by decide +kernel) rfl rfl (List.forall_mem_cons.mpr ⟨fw_row nn_PM1_ok (x := 350) (k := 0) (mn := 134) (np := 1) (ob := true) (ci := 3) (⟨"NameNotes$Journal", "takeBack", "(LNameNotes$Studio;)V"⟩, prog_5_method_3_code, 5, (Option.none : Option Jvm.ClassFile.FieldType), 1, true, 4) rfl (by decide +kernel) rfl rfl (by decide) (fun _ => ⟨_, _, rfl⟩) (fm_takeBack hinj), (fun _ h => absurd h List.not_mem_nil)⟩) (fun as σ K h => by
  obtain ⟨rfl, hs, h0, h1⟩ := h
  refine ⟨rfl, fun G hG => fs_undo_0 hG ?_⟩
  rw [fw_c1, fw_c_id (x := σ 85 1) (by omega) (by omega)]
  refine ⟨fun q => ?_, fun q => h0 (by omega)⟩
  obtain ⟨n, p, a, hp, b, c⟩ := h1 (by omega)
  exact ⟨rfl, n, p, a, by omega, hp, b, fun σ' t => fs_undo_24 hG (by rw [t.2.1]; exact c σ' t)⟩)
theorem fm_teach (hinj : nn_inj ad) : fw_H l cy ad wr cr D 130 3 sp_teach := fw_mk hinj (⟨"NameNotes", "teach", "(III)Z"⟩, prog_1_method_32_code, 4, (Option.some Jvm.ClassFile.FieldType.boolean), 3, true, 1) rfl rfl nn_KI1_ok nn_KJ1_ok nn_PF1_ok nn_PS1_ok (by decide +kernel) rfl rfl (List.forall_mem_cons.mpr ⟨fw_row nn_PM1_ok (x := 157) (k := 0) (mn := 46) (np := 1) (ob := true) (ci := 6) (⟨"NameNotes$Studio", "isTune", "(I)Z"⟩, prog_8_method_4_code, 2, (Option.some Jvm.ClassFile.FieldType.boolean), 1, true, 1) rfl (by decide +kernel) rfl rfl (by decide) (fun _ => ⟨_, _, rfl⟩) (fm_isTune3 hinj), (List.forall_mem_cons.mpr ⟨fw_row nn_PM1_ok (x := 173) (k := 0) (mn := 67) (np := 1) (ob := true) (ci := 6) (⟨"NameNotes$Studio", "isPerson", "(I)Z"⟩, prog_8_method_6_code, 2, (Option.some Jvm.ClassFile.FieldType.boolean), 1, true, 1) rfl (by decide +kernel) rfl rfl (by decide) (fun _ => ⟨_, _, rfl⟩) (fm_isPerson3 hinj), (List.forall_mem_cons.mpr ⟨fw_row nn_PM1_ok (x := 176) (k := 0) (mn := 68) (np := 2) (ob := true) (ci := 6) (⟨"NameNotes$Studio", "ninth", "(II)I"⟩, prog_8_method_13_code, 3, (Option.some Jvm.ClassFile.FieldType.int), 2, true, 0) rfl (by decide +kernel) rfl rfl (by decide) (fun _ => ⟨_, _, rfl⟩) (fm_ninth3 hinj), (List.forall_mem_cons.mpr ⟨fw_row nn_PM1_ok (x := 232) (k := 0) (mn := 81) (np := 1) (ob := false) (ci := 0) (⟨"NameNotes", "isNinth", "(I)Z"⟩, prog_1_method_75_code, 1, (Option.some Jvm.ClassFile.FieldType.boolean), 1, false, 1) rfl (by decide +kernel) rfl rfl (by decide) (fun q => by cases q) (fm_isNinth hinj), (List.forall_mem_cons.mpr ⟨fw_row nn_PM1_ok (x := 339) (k := 0) (mn := 131) (np := 2) (ob := true) (ci := 3) (⟨"NameNotes$Journal", "keep", "(LNameNotes$Studio;I)V"⟩, prog_5_method_2_code, 5, (Option.none : Option Jvm.ClassFile.FieldType), 2, true, 4) rfl (by decide +kernel) rfl rfl (by decide) (fun _ => ⟨_, _, rfl⟩) (fm_keep hinj), (List.forall_mem_cons.mpr ⟨fw_row nn_PM1_ok (x := 343) (k := 0) (mn := 37) (np := 3) (ob := true) (ci := 6) (⟨"NameNotes$Studio", "setNinth", "(III)V"⟩, prog_8_method_14_code, 4, (Option.none : Option Jvm.ClassFile.FieldType), 3, true, 4) rfl (by decide +kernel) rfl rfl (by decide) (fun _ => ⟨_, _, rfl⟩) (fm_setNinth3 hinj), (fun _ h => absurd h List.not_mem_nil)⟩)⟩)⟩)⟩)⟩)⟩) (fun as σ K h => by
  obtain ⟨p, x, k, rfl, ⟨ep, ex, ek⟩, ⟨w0, w2, w24⟩, h0, h1⟩ := h
  refine ⟨rfl, fun G hG => fs_teach_0 hG ⟨p, rfl, fs_teach_8 hG ?_⟩⟩
  refine ⟨fun q => ⟨fw_01, h0 (fun z => absurd (z.1.symm.trans (m_b_eq q)) (by decide))⟩, fun q => ⟨x, rfl, fs_teach_19 hG ?_⟩⟩
  have qp := m_b_ne q
  refine ⟨fun q => ⟨fw_01, h0 (fun z => absurd (z.2.1.symm.trans (m_b_eq q)) (by decide))⟩, fun q => ⟨k, rfl, fs_teach_26 hG ?_⟩⟩
  have qx := m_b_ne q
  rw [ek]
  refine ⟨fun q => ⟨fw_01, h0 (fun z => m_bf (m_b_eq q) z.2.2)⟩, fun q => ?_⟩
  have qk := m_bt (m_b_ne q)
  have p1 := c_pe_t qp
  have x1 := c_tu_t qx
  rw [ep, fw_c_id (x := σ 3 13) (by omega) (by omega)] at p1
  rw [ex, fw_c_id (x := σ 3 11) (by omega) (by omega)] at x1
  obtain ⟨p', rfl⟩ := Int.eq_ofNat_of_zero_le p1.1
  obtain ⟨x', rfl⟩ := Int.eq_ofNat_of_zero_le x1.1
  have hh := h1 p' x' rfl rfl qp qx qk
  refine ⟨p', x', rfl, by omega, by omega, fs_teach_38 hG ?_⟩
  rw [ek]
  refine ⟨fun q => ⟨p', rfl, by omega, w24, fun σ1 hs => fs_teach_56 hG ⟨p', x', k, rfl, by omega, by omega, fs_teach_66 hG ⟨by rw [fw_c1]; decide, hh.2 q _ ⟨σ1, hs, rfl⟩⟩⟩⟩, fun q => ⟨fw_01, hh.1 q⟩⟩)
theorem fm_dares (hinj : nn_inj ad) : fw_H l cy ad wr cr D 132 3 sp_dares := fw_mk hinj (⟨"NameNotes", "dares", "(II)Z"⟩, prog_1_method_33_code, 3, (Option.some Jvm.ClassFile.FieldType.boolean), 2, true, 1) rfl rfl nn_KI1_ok nn_KJ1_ok nn_PF1_ok nn_PS1_ok (by decide +kernel) rfl rfl (List.forall_mem_cons.mpr ⟨fw_row nn_PM1_ok (x := 173) (k := 0) (mn := 67) (np := 1) (ob := true) (ci := 6) (⟨"NameNotes$Studio", "isPerson", "(I)Z"⟩, prog_8_method_6_code, 2, (Option.some Jvm.ClassFile.FieldType.boolean), 1, true, 1) rfl (by decide +kernel) rfl rfl (by decide) (fun _ => ⟨_, _, rfl⟩) (fm_isPerson3 hinj), (List.forall_mem_cons.mpr ⟨fw_row nn_PM1_ok (x := 180) (k := 0) (mn := 29) (np := 2) (ob := false) (ci := 0) (⟨"NameNotes", "at", "([II)I"⟩, prog_1_method_84_code, 2, (Option.some Jvm.ClassFile.FieldType.int), 2, false, 0) rfl (by decide +kernel) rfl rfl (by decide) (fun q => by cases q) (fm_atc hinj), (List.forall_mem_cons.mpr ⟨fw_row nn_PM1_ok (x := 232) (k := 0) (mn := 81) (np := 1) (ob := false) (ci := 0) (⟨"NameNotes", "isNinth", "(I)Z"⟩, prog_1_method_75_code, 1, (Option.some Jvm.ClassFile.FieldType.boolean), 1, false, 1) rfl (by decide +kernel) rfl rfl (by decide) (fun q => by cases q) (fm_isNinth hinj), (List.forall_mem_cons.mpr ⟨fw_row nn_PM1_ok (x := 339) (k := 0) (mn := 131) (np := 2) (ob := true) (ci := 3) (⟨"NameNotes$Journal", "keep", "(LNameNotes$Studio;I)V"⟩, prog_5_method_2_code, 5, (Option.none : Option Jvm.ClassFile.FieldType), 2, true, 4) rfl (by decide +kernel) rfl rfl (by decide) (fun _ => ⟨_, _, rfl⟩) (fm_keep hinj), (List.forall_mem_cons.mpr ⟨fw_row nn_PM1_ok (x := 346) (k := 0) (mn := 27) (np := 3) (ob := false) (ci := 0) (⟨"NameNotes", "put", "([III)V"⟩, prog_1_method_86_code, 3, (Option.none : Option Jvm.ClassFile.FieldType), 3, false, 4) rfl (by decide +kernel) rfl rfl (by decide) (fun q => by cases q) (fm_putc hinj), (fun _ h => absurd h List.not_mem_nil)⟩)⟩)⟩)⟩)⟩) (fun as σ K h => by
  obtain ⟨p, k, rfl, ⟨ep, ek⟩, ⟨w0, w2, w24⟩, h0, h1⟩ := h
  refine ⟨rfl, fun G hG => fs_dares_0 hG ⟨p, rfl, fs_dares_8 hG ?_⟩⟩
  refine ⟨fun q => ⟨fw_01, h0 (fun z => absurd (z.1.symm.trans (m_b_eq q)) (by decide))⟩, fun q => ⟨k, rfl, fs_dares_15 hG ?_⟩⟩
  have qp := m_b_ne q
  rw [ek]
  refine ⟨fun q => ⟨fw_01, h0 (fun z => m_bf (m_b_eq q) z.2)⟩, fun q => ?_⟩
  have qk := m_bt (m_b_ne q)
  have p1 := c_pe_t qp
  rw [ep, fw_c_id (x := σ 3 13) (by omega) (by omega)] at p1
  obtain ⟨p', rfl⟩ := Int.eq_ofNat_of_zero_le p1.1
  have hh := h1 p' rfl qp qk
  refine ⟨(10, 5), by decide, _, rfl, fun _ => fs_dares_29 hG ?_, fun z => absurd (by rw [ep]; exact ⟨p1.1, by omega⟩) z⟩
  rw [ek, ep, Int.toNat_natCast]
  refine ⟨fun q => ⟨p', rfl, by omega, w24, fun σ1 hs => fs_dares_47 hG ⟨(10, 5), by decide, _, _, rfl, fun _ => fs_dares_59 hG ⟨by rw [fw_c1]; decide, ?_⟩, fun z => absurd (by rw [ep]; exact ⟨p1.1, by omega⟩) z⟩⟩, fun q => ⟨fw_01, hh.1 q⟩⟩
  rw [ep, Int.toNat_natCast]
  exact hh.2 q _ ⟨σ1, hs, rfl⟩)
end
end
section
/-! a person becomes like another: both sides -/
/-- in how many of the first n two stretches of a row differ -/
def cd_n (F : Nat → Int) (a b : Nat) : Nat → Int
  | 0 => 0
  | n + 1 => if fw_c (F (a + n)) = fw_c (F (b + n)) then cd_n F a b n else cd_n F a b n + 1
theorem cd_s (F : Nat → Int) (a b n : Nat) : cd_n F a b (n + 1) = if fw_c (F (a + n)) = fw_c (F (b + n)) then cd_n F a b n else cd_n F a b n + 1 := rfl
theorem cd_b (F : Nat → Int) (a b : Nat) : ∀ n : Nat, 0 ≤ cd_n F a b n ∧ cd_n F a b n ≤ (n : Int)
  | 0 => ⟨Int.le_refl 0, Int.le_refl 0⟩
  | n + 1 => by
    have h := cd_b F a b n
    rw [cd_s]
    split <;> omega
theorem cd_cg {F F' : Nat → Int} {a b a' b' : Nat} : ∀ n : Nat, (∀ i : Nat, i < n → F (a + i) = F' (a' + i) ∧ F (b + i) = F' (b' + i)) → cd_n F a b n = cd_n F' a' b' n
  | 0, _ => rfl
  | n + 1, h => by
    have e := cd_cg n (fun i hi => h i (by omega))
    have e2 := h n (by omega)
    rw [cd_s, cd_s, e, e2.1, e2.2]
def cw_is (σ σ' : ab_SG) (k a b N : Nat) : Prop := ab_okM [(k, 1000000)] σ σ' ∧ (∀ j : Nat, (j < a ∨ a + N ≤ j) → σ' k j = σ k j) ∧ ∀ x : Nat, x < N → σ' k (a + x) = fw_c (σ k (b + x))
def qm_is (σ σ' : ab_SG) (p q N : Nat) : Prop := ∃ σ1 : ab_SG, sn_is (ab_ups σ 93 0 0) σ1 ∧ cw_is σ1 σ' 95 (182 + 9 * p) (182 + 9 * q) N
def sp_m_copies : fw_SP := fun as σ K => ∃ p q : Int, as = [(2, 93, 0), (0, 0, p), (0, 0, q)] ∧ (fw_c p = p ∧ fw_c q = q) ∧ m_fw σ ∧
  (¬ (m_pe σ p = true ∧ m_pe σ q = true) → K (some (0, 0, -1)) (ab_ups σ 93 0 0)) ∧
  (∀ p' q' N : Nat, p = (p' : Int) → q = (q' : Int) → m_pe σ p = true → m_pe σ q = true → σ 95 0 = (N : Int) → (cd_n (σ 95) (182 + 9 * p') (182 + 9 * q') N = 0 → K (some (0, 0, 0)) (ab_ups σ 93 0 0)) ∧
    (cd_n (σ 95) (182 + 9 * p') (182 + 9 * q') N ≠ 0 → ∀ σ' : ab_SG, qm_is σ σ' p' q' N → K (some (0, 0, cd_n (σ 95) (182 + 9 * p') (182 + 9 * q') N)) σ'))
def qc_is (σ σ' : ab_SG) (p q N : Nat) : Prop := ∃ σ1 : ab_SG, kj_is σ σ1 p ∧ cw_is σ1 σ' 9 (9 * p) (9 * q) N
def sp_copies : fw_SP := fun as σ K => ∃ p q : Int, as = [(2, 0, 0), (0, 0, p), (0, 0, q)] ∧ (fw_c p = p ∧ fw_c q = q) ∧ c_fw σ ∧
  (¬ (c_pe σ p = true ∧ c_pe σ q = true) → K (some (0, 0, -1)) σ) ∧
  (∀ p' q' N : Nat, p = (p' : Int) → q = (q' : Int) → c_pe σ p = true → c_pe σ q = true → σ 3 11 = (N : Int) → (cd_n (σ 9) (9 * p') (9 * q') N = 0 → K (some (0, 0, 0)) σ) ∧
    (cd_n (σ 9) (9 * p') (9 * q') N ≠ 0 → ∀ σ' : ab_SG, qc_is σ σ' p' q' N → K (some (0, 0, cd_n (σ 9) (9 * p') (9 * q') N)) σ'))
abbrev fk_m_copies : List fw_CR := [(261, 0, true, 11, 0, sp_m_tunes), (281, 1, true, 11, 0, sp_m_isPerson), (284, 2, true, 11, 0, sp_m_known), (411, 0, true, 11, 0, sp_m_snap)]
abbrev st_m_copies : fw_K → fw_KR → fw_K := fw_st vwCl nn_sh nn_kd fw_kv fw_wc (nn_KI20.map (fun x => x.1)) (nn_KJ20.map (fun x => x.1)) (nn_PF20.map (fun x => x.1)) (nn_PS20.map (fun x => x.1)) fk_m_copies 1 nn_dt318 5 0
theorem fs_m_copies_0 {G : fw_K} {R : fw_KR} (hG : fw_cls st_m_copies R G) {p q : Int} {σ : ab_SG} (h : sp_m_isPerson [(2, 93, 0), (0, 0, p)] (ab_ups σ 93 0 (fw_c 0)) (fun rv σ2 => G 10 [some (2, 93, 0), some (0, 0, p), some (0, 0, q), none, none] (rv.toList ++ []) σ2)) : G 0 [some (2, 93, 0), some (0, 0, p), some (0, 0, q), none, none] [] σ := fw_on hG [10, 18, 28, 34, 44, 51, 57, 73, 76, 82, 107] 200 h
theorem fs_m_copies_10 {G : fw_K} {R : fw_KR} (hG : fw_cls st_m_copies R G) {a1 a2 b0 : Int} {σ : ab_SG} (h : (fw_c b0 = 0 → R (some (0, 0, (-1))) σ) ∧ (fw_c b0 ≠ 0 → sp_m_isPerson [(2, 93, 0), (0, 0, a2)] σ (fun rv σ2 => G 18 [some (2, 93, 0), some (0, 0, a1), some (0, 0, a2), none, none] (rv.toList ++ []) σ2))) : G 10 [some (2, 93, 0), some (0, 0, a1), some (0, 0, a2), none, none] [(0, 0, b0)] σ := fw_on hG [10, 18, 28, 34, 44, 51, 57, 73, 76, 82, 107] 200 h
theorem fs_m_copies_18 {G : fw_K} {R : fw_KR} (hG : fw_cls st_m_copies R G) {a1 a2 b0 : Int} {σ : ab_SG} (h : (fw_c b0 ≠ 0 → G 28 [some (2, 93, 0), some (0, 0, a1), some (0, 0, a2), some (0, 0, 0), some (0, 0, 0)] [] σ) ∧ (fw_c b0 = 0 → R (some (0, 0, (-1))) σ)) : G 18 [some (2, 93, 0), some (0, 0, a1), some (0, 0, a2), none, none] [(0, 0, b0)] σ := fw_on hG [10, 18, 28, 34, 44, 51, 57, 73, 76, 82, 107] 200 h
theorem fs_m_copies_28 {G : fw_K} {R : fw_KR} (hG : fw_cls st_m_copies R G) {a1 a2 a3 a4 : Int} {σ : ab_SG} (h : sp_m_tunes [(2, 93, 0)] σ (fun rv σ2 => G 34 [some (2, 93, 0), some (0, 0, a1), some (0, 0, a2), some (0, 0, a3), some (0, 0, a4)] (rv.toList ++ [(0, 0, a4)]) σ2)) : G 28 [some (2, 93, 0), some (0, 0, a1), some (0, 0, a2), some (0, 0, a3), some (0, 0, a4)] [] σ := fw_on hG [10, 18, 28, 34, 44, 51, 57, 73, 76, 82, 107] 200 h
theorem fs_m_copies_34 {G : fw_K} {R : fw_KR} (hG : fw_cls st_m_copies R G) {a1 a2 a3 a4 b0 b1 : Int} {σ : ab_SG} (h : (fw_c b0 ≤ fw_c b1 → (fw_c a3 ≠ 0 → sp_m_snap [(2, 93, 0)] σ (fun rv σ2 => G 73 [some (2, 93, 0), some (0, 0, a1), some (0, 0, a2), some (0, 0, a3), some (0, 0, a4)] (rv.toList ++ []) σ2)) ∧ (fw_c a3 = 0 → R (some (0, 0, 0)) σ)) ∧ (fw_c b1 < fw_c b0 → sp_m_known [(2, 93, 0), (0, 0, a1), (0, 0, a4)] σ (fun rv σ2 => G 44 [some (2, 93, 0), some (0, 0, a1), some (0, 0, a2), some (0, 0, a3), some (0, 0, a4)] (rv.toList ++ []) σ2))) : G 34 [some (2, 93, 0), some (0, 0, a1), some (0, 0, a2), some (0, 0, a3), some (0, 0, a4)] [(0, 0, b0), (0, 0, b1)] σ := fw_on hG [10, 18, 28, 34, 44, 51, 57, 73, 76, 82, 107] 200 h
theorem fs_m_copies_73 {G : fw_K} {R : fw_KR} (hG : fw_cls st_m_copies R G) {a1 a2 a3 a4 : Int} {σ : ab_SG} (h : G 76 [some (2, 93, 0), some (0, 0, a1), some (0, 0, a2), some (0, 0, a3), some (0, 0, 0)] [] σ) : G 73 [some (2, 93, 0), some (0, 0, a1), some (0, 0, a2), some (0, 0, a3), some (0, 0, a4)] [] σ := fw_on hG [10, 18, 28, 34, 44, 51, 57, 73, 76, 82, 107] 200 h
theorem fs_m_copies_44 {G : fw_K} {R : fw_KR} (hG : fw_cls st_m_copies R G) {a1 a2 a3 a4 b0 : Int} {σ : ab_SG} (h : sp_m_known [(2, 93, 0), (0, 0, a2), (0, 0, a4)] σ (fun rv σ2 => G 51 [some (2, 93, 0), some (0, 0, a1), some (0, 0, a2), some (0, 0, a3), some (0, 0, a4)] (rv.toList ++ [(0, 0, b0)]) σ2)) : G 44 [some (2, 93, 0), some (0, 0, a1), some (0, 0, a2), some (0, 0, a3), some (0, 0, a4)] [(0, 0, b0)] σ := fw_on hG [10, 18, 28, 34, 44, 51, 57, 73, 76, 82, 107] 200 h
theorem fs_m_copies_76 {G : fw_K} {R : fw_KR} (hG : fw_cls st_m_copies R G) {a1 a2 a3 a4 : Int} {σ : ab_SG} (h : sp_m_tunes [(2, 93, 0)] σ (fun rv σ2 => G 82 [some (2, 93, 0), some (0, 0, a1), some (0, 0, a2), some (0, 0, a3), some (0, 0, a4)] (rv.toList ++ [(0, 0, a4)]) σ2)) : G 76 [some (2, 93, 0), some (0, 0, a1), some (0, 0, a2), some (0, 0, a3), some (0, 0, a4)] [] σ := fw_on hG [10, 18, 28, 34, 44, 51, 57, 73, 76, 82, 107] 200 h
theorem fs_m_copies_51 {G : fw_K} {R : fw_KR} (hG : fw_cls st_m_copies R G) {a1 a2 a3 a4 b0 b1 : Int} {σ : ab_SG} (h : (fw_c b1 = fw_c b0 → G 57 [some (2, 93, 0), some (0, 0, a1), some (0, 0, a2), some (0, 0, a3), some (0, 0, a4)] [] σ) ∧ (fw_c b1 ≠ fw_c b0 → G 57 [some (2, 93, 0), some (0, 0, a1), some (0, 0, a2), some (0, 0, a3 + 1), some (0, 0, a4)] [] σ)) : G 51 [some (2, 93, 0), some (0, 0, a1), some (0, 0, a2), some (0, 0, a3), some (0, 0, a4)] [(0, 0, b0), (0, 0, b1)] σ := fw_on hG [10, 18, 28, 34, 44, 51, 57, 73, 76, 82, 107] 200 h
theorem fs_m_copies_82 {G : fw_K} {R : fw_KR} (hG : fw_cls st_m_copies R G) {a1 a2 a3 a4 b0 b1 : Int} {σ : ab_SG} (h : (fw_c b0 ≤ fw_c b1 → R (some (0, 0, a3)) σ) ∧ (fw_c b1 < fw_c b0 → sp_m_known [(2, 93, 0), (0, 0, a2), (0, 0, a4)] σ (fun rv σ2 => G 107 [some (2, 93, 0), some (0, 0, a1), some (0, 0, a2), some (0, 0, a3), some (0, 0, a4)] (rv.toList ++ [(0, 0, (182 + (9 * a1)) + a4), (2, 95, 0)]) σ2))) : G 82 [some (2, 93, 0), some (0, 0, a1), some (0, 0, a2), some (0, 0, a3), some (0, 0, a4)] [(0, 0, b0), (0, 0, b1)] σ := fw_on hG [10, 18, 28, 34, 44, 51, 57, 73, 76, 82, 107] 200 h
theorem fs_m_copies_57 {G : fw_K} {R : fw_KR} (hG : fw_cls st_m_copies R G) {a1 a2 a3 a4 : Int} {σ : ab_SG} (h : G 28 [some (2, 93, 0), some (0, 0, a1), some (0, 0, a2), some (0, 0, a3), some (0, 0, a4 + 1)] [] σ) : G 57 [some (2, 93, 0), some (0, 0, a1), some (0, 0, a2), some (0, 0, a3), some (0, 0, a4)] [] σ := fw_on hG [10, 18, 28, 34, 44, 51, 57, 73, 76, 82, 107] 200 h
theorem fs_m_copies_107 {G : fw_K} {R : fw_KR} (hG : fw_cls st_m_copies R G) {a1 a2 a3 a4 b0 b1 : Int} {σ : ab_SG} (h : (0 ≤ fw_c b1 ∧ fw_c b1 < ((474 : Nat) : Int)) ∧ True ∧ (G 76 [some (2, 93, 0), some (0, 0, a1), some (0, 0, a2), some (0, 0, a3), some (0, 0, a4 + 1)] [] (ab_ups σ 95 (fw_c b1).toNat (fw_c b0)))) : G 107 [some (2, 93, 0), some (0, 0, a1), some (0, 0, a2), some (0, 0, a3), some (0, 0, a4)] [(0, 0, b0), (0, 0, b1), (2, 95, 0)] σ := fw_on hG [10, 18, 28, 34, 44, 51, 57, 73, 76, 82, 107] 200 h
abbrev fk_copies : List fw_CR := [(173, 1, true, 6, 0, sp_isPerson3), (176, 2, true, 6, 1, sp_ninth3), (339, 2, true, 3, 2, sp_keep), (343, 3, true, 6, 1, sp_setNinth3)]
abbrev st_copies : fw_K → fw_KR → fw_K := fw_st vwCl nn_sh nn_kd fw_kv fw_wc (nn_KI1.map (fun x => x.1)) (nn_KJ1.map (fun x => x.1)) (nn_PF1.map (fun x => x.1)) (nn_PS1.map (fun x => x.1)) fk_copies 3 nn_dt140 5 0
theorem fs_copies_0 {G : fw_K} {R : fw_KR} (hG : fw_cls st_copies R G) {p q : Int} {σ : ab_SG} (h : sp_isPerson3 [(2, 3, 0), (0, 0, p)] σ (fun rv σ2 => G 8 [some (2, 0, 0), some (0, 0, p), some (0, 0, q), none, none] (rv.toList ++ []) σ2)) : G 0 [some (2, 0, 0), some (0, 0, p), some (0, 0, q), none, none] [] σ := fw_on hG [8, 19, 29, 51, 61, 67, 89, 92, 121, 124] 200 h
theorem fs_copies_8 {G : fw_K} {R : fw_KR} (hG : fw_cls st_copies R G) {a1 a2 b0 : Int} {σ : ab_SG} (h : (fw_c b0 = 0 → R (some (0, 0, (-1))) σ) ∧ (fw_c b0 ≠ 0 → sp_isPerson3 [(2, 3, 0), (0, 0, a2)] σ (fun rv σ2 => G 19 [some (2, 0, 0), some (0, 0, a1), some (0, 0, a2), none, none] (rv.toList ++ []) σ2))) : G 8 [some (2, 0, 0), some (0, 0, a1), some (0, 0, a2), none, none] [(0, 0, b0)] σ := fw_on hG [8, 19, 29, 51, 61, 67, 89, 92, 121, 124] 200 h
theorem fs_copies_19 {G : fw_K} {R : fw_KR} (hG : fw_cls st_copies R G) {a1 a2 b0 : Int} {σ : ab_SG} (h : (fw_c b0 ≠ 0 → G 29 [some (2, 0, 0), some (0, 0, a1), some (0, 0, a2), some (0, 0, 0), some (0, 0, 0)] [] σ) ∧ (fw_c b0 = 0 → R (some (0, 0, (-1))) σ)) : G 19 [some (2, 0, 0), some (0, 0, a1), some (0, 0, a2), none, none] [(0, 0, b0)] σ := fw_on hG [8, 19, 29, 51, 61, 67, 89, 92, 121, 124] 200 h
theorem fs_copies_29 {G : fw_K} {R : fw_KR} (hG : fw_cls st_copies R G) {a1 a2 a3 a4 : Int} {σ : ab_SG} (h : (fw_c (σ 3 11) ≤ fw_c a4 → (fw_c a3 ≤ 0 → R (some (0, 0, a3)) σ) ∧ (0 < fw_c a3 → sp_keep [(2, 85, 0), (2, 3, 0), (0, 0, a1)] σ (fun rv σ2 => G 89 [some (2, 0, 0), some (0, 0, a1), some (0, 0, a2), some (0, 0, a3), some (0, 0, a4)] (rv.toList ++ []) σ2))) ∧ (fw_c a4 < fw_c (σ 3 11) → sp_ninth3 [(2, 3, 0), (0, 0, a1), (0, 0, a4)] σ (fun rv σ2 => G 51 [some (2, 0, 0), some (0, 0, a1), some (0, 0, a2), some (0, 0, a3), some (0, 0, a4)] (rv.toList ++ []) σ2))) : G 29 [some (2, 0, 0), some (0, 0, a1), some (0, 0, a2), some (0, 0, a3), some (0, 0, a4)] [] σ := fw_on hG [8, 19, 29, 51, 61, 67, 89, 92, 121, 124] 200 h
theorem fs_copies_89 {G : fw_K} {R : fw_KR} (hG : fw_cls st_copies R G) {a1 a2 a3 a4 : Int} {σ : ab_SG} (h : G 92 [some (2, 0, 0), some (0, 0, a1), some (0, 0, a2), some (0, 0, a3), some (0, 0, 0)] [] σ) : G 89 [some (2, 0, 0), some (0, 0, a1), some (0, 0, a2), some (0, 0, a3), some (0, 0, a4)] [] σ := fw_on hG [8, 19, 29, 51, 61, 67, 89, 92, 121, 124] 200 h
theorem fs_copies_51 {G : fw_K} {R : fw_KR} (hG : fw_cls st_copies R G) {a1 a2 a3 a4 b0 : Int} {σ : ab_SG} (h : sp_ninth3 [(2, 3, 0), (0, 0, a2), (0, 0, a4)] σ (fun rv σ2 => G 61 [some (2, 0, 0), some (0, 0, a1), some (0, 0, a2), some (0, 0, a3), some (0, 0, a4)] (rv.toList ++ [(0, 0, b0)]) σ2)) : G 51 [some (2, 0, 0), some (0, 0, a1), some (0, 0, a2), some (0, 0, a3), some (0, 0, a4)] [(0, 0, b0)] σ := fw_on hG [8, 19, 29, 51, 61, 67, 89, 92, 121, 124] 200 h
theorem fs_copies_92 {G : fw_K} {R : fw_KR} (hG : fw_cls st_copies R G) {a1 a2 a3 a4 : Int} {σ : ab_SG} (h : (fw_c (σ 3 11) ≤ fw_c a4 → R (some (0, 0, a3)) σ) ∧ (fw_c a4 < fw_c (σ 3 11) → sp_ninth3 [(2, 3, 0), (0, 0, a2), (0, 0, a4)] σ (fun rv σ2 => G 121 [some (2, 0, 0), some (0, 0, a1), some (0, 0, a2), some (0, 0, a3), some (0, 0, a4)] (rv.toList ++ [(0, 0, a4), (0, 0, a1), (2, 3, 0)]) σ2))) : G 92 [some (2, 0, 0), some (0, 0, a1), some (0, 0, a2), some (0, 0, a3), some (0, 0, a4)] [] σ := fw_on hG [8, 19, 29, 51, 61, 67, 89, 92, 121, 124] 200 h
theorem fs_copies_61 {G : fw_K} {R : fw_KR} (hG : fw_cls st_copies R G) {a1 a2 a3 a4 b0 b1 : Int} {σ : ab_SG} (h : (fw_c b1 = fw_c b0 → G 67 [some (2, 0, 0), some (0, 0, a1), some (0, 0, a2), some (0, 0, a3), some (0, 0, a4)] [] σ) ∧ (fw_c b1 ≠ fw_c b0 → G 67 [some (2, 0, 0), some (0, 0, a1), some (0, 0, a2), some (0, 0, a3 + 1), some (0, 0, a4)] [] σ)) : G 61 [some (2, 0, 0), some (0, 0, a1), some (0, 0, a2), some (0, 0, a3), some (0, 0, a4)] [(0, 0, b0), (0, 0, b1)] σ := fw_on hG [8, 19, 29, 51, 61, 67, 89, 92, 121, 124] 200 h
theorem fs_copies_121 {G : fw_K} {R : fw_KR} (hG : fw_cls st_copies R G) {a1 a2 a3 a4 b0 b1 b2 : Int} {σ : ab_SG} (h : sp_setNinth3 [(2, 3, 0), (0, 0, b2), (0, 0, b1), (0, 0, b0)] σ (fun rv σ2 => G 124 [some (2, 0, 0), some (0, 0, a1), some (0, 0, a2), some (0, 0, a3), some (0, 0, a4)] (rv.toList ++ []) σ2)) : G 121 [some (2, 0, 0), some (0, 0, a1), some (0, 0, a2), some (0, 0, a3), some (0, 0, a4)] [(0, 0, b0), (0, 0, b1), (0, 0, b2), (2, 3, 0)] σ := fw_on hG [8, 19, 29, 51, 61, 67, 89, 92, 121, 124] 200 h
theorem fs_copies_67 {G : fw_K} {R : fw_KR} (hG : fw_cls st_copies R G) {a1 a2 a3 a4 : Int} {σ : ab_SG} (h : G 29 [some (2, 0, 0), some (0, 0, a1), some (0, 0, a2), some (0, 0, a3), some (0, 0, a4 + 1)] [] σ) : G 67 [some (2, 0, 0), some (0, 0, a1), some (0, 0, a2), some (0, 0, a3), some (0, 0, a4)] [] σ := fw_on hG [8, 19, 29, 51, 61, 67, 89, 92, 121, 124] 200 h
theorem fs_copies_124 {G : fw_K} {R : fw_KR} (hG : fw_cls st_copies R G) {a1 a2 a3 a4 : Int} {σ : ab_SG} (h : G 92 [some (2, 0, 0), some (0, 0, a1), some (0, 0, a2), some (0, 0, a3), some (0, 0, a4 + 1)] [] σ) : G 124 [some (2, 0, 0), some (0, 0, a1), some (0, 0, a2), some (0, 0, a3), some (0, 0, a4)] [] σ := fw_on hG [8, 19, 29, 51, 61, 67, 89, 92, 121, 124] 200 h

section
variable {l : Launch} {cy : Nat → ClassId} {ad wr cr : Nat → Nat} {D : va_G}
theorem fm_m_copies (hinj : nn_inj ad) : fw_H l cy ad wr cr D 318 1 sp_m_copies := fw_mk hinj (⟨"NameNotesModel", "copies", "(II)I"⟩, prog_14_method_116_code, 5, (Option.some Jvm.ClassFile.FieldType.int), 2, true, 0) rfl rfl nn_KI20_ok nn_KJ20_ok nn_PF20_ok nn_PS20_ok (by decide +kernel) rfl rfl (List.forall_mem_cons.mpr ⟨fw_row nn_PM20_ok (x := 261) (k := 0) (mn := 240) (np := 0) (ob := true) (ci := 11) (⟨"NameNotesModel", "tunes", "()I"⟩, prog_14_method_41_code, 1, (Option.some Jvm.ClassFile.FieldType.int), 0, true, 0) rfl (by decide +kernel) rfl rfl (by decide) (fun _ => ⟨_, _, rfl⟩) (fm_m_tunes hinj), (List.forall_mem_cons.mpr ⟨fw_row nn_PM20_ok (x := 281) (k := 0) (mn := 249) (np := 1) (ob := true) (ci := 11) (⟨"NameNotesModel", "isPerson", "(I)Z"⟩, prog_14_method_44_code, 2, (Option.some Jvm.ClassFile.FieldType.boolean), 1, true, 1) rfl (by decide +kernel) rfl rfl (by decide) (fun _ => ⟨_, _, rfl⟩) (fm_m_isPerson hinj), (List.forall_mem_cons.mpr ⟨fw_row nn_PM20_ok (x := 284) (k := 0) (mn := 250) (np := 2) (ob := true) (ci := 11) (⟨"NameNotesModel", "known", "(II)I"⟩, prog_14_method_54_code, 3, (Option.some Jvm.ClassFile.FieldType.int), 2, true, 0) rfl (by decide +kernel) rfl rfl (by decide) (fun _ => ⟨_, _, rfl⟩) (fm_m_known hinj), (List.forall_mem_cons.mpr ⟨fw_row nn_PM20_ok (x := 411) (k := 0) (mn := 316) (np := 0) (ob := true) (ci := 11) (⟨"NameNotesModel", "snap", "()V"⟩, prog_14_method_112_code, 2, (Option.none : Option Jvm.ClassFile.FieldType), 0, true, 4) rfl (by decide +kernel) rfl rfl (by decide) (fun _ => ⟨_, _, rfl⟩) (fm_m_snap hinj), (fun _ h => absurd h List.not_mem_nil)⟩)⟩)⟩)⟩) (fun as σ K h => by
  obtain ⟨p, q, rfl, ⟨ep, e2⟩, ⟨w0, w2, w24⟩, h0, h1⟩ := h
  refine ⟨rfl, fun G hG => fs_m_copies_0 hG ⟨p, rfl, fs_m_copies_10 hG ?_⟩⟩
  rw [m_pe_ups, fw_c0]
  refine ⟨fun z => h0 (fun y => absurd (y.1.symm.trans (m_b_eq z)) (by decide)), fun z => ⟨q, rfl, fs_m_copies_18 hG ?_⟩⟩
  have qp := m_b_ne z
  rw [m_pe_ups]
  refine ⟨fun z => ?_, fun z => h0 (fun y => absurd (y.2.symm.trans (m_b_eq z)) (by decide))⟩
  have qq := m_b_ne z
  have p1 := m_pe_t qp
  have q1 := m_pe_t qq
  rw [ep, fw_c_id (x := σ 95 2) (by omega) (by omega)] at p1
  rw [e2, fw_c_id (x := σ 95 2) (by omega) (by omega)] at q1
  obtain ⟨p', rfl⟩ := Int.eq_ofNat_of_zero_le p1.1
  obtain ⟨q', rfl⟩ := Int.eq_ofNat_of_zero_le q1.1
  obtain ⟨N, hN⟩ := Int.eq_ofNat_of_zero_le w0.1
  obtain ⟨hz, hh⟩ := h1 p' q' N rfl rfl qp qq hN
  have k95 : ab_ups σ 93 0 0 95 = σ 95 := ab_ups_row (by decide)
  have eN : fw_c (N : Int) = (N : Int) := fw_c_id (by omega) (by omega)
  have cdN := cd_b (σ 95) (182 + 9 * p') (182 + 9 * q') N
  have loop2 : ∀ (σ1 : ab_SG), sn_is (ab_ups σ 93 0 0) σ1 → cd_n (σ 95) (182 + 9 * p') (182 + 9 * q') N ≠ 0 → ∀ (f x : Nat) (υ : ab_SG), x + f = N → ab_okM [(95, 1000000)] σ1 υ → (∀ j : Nat, (j < 182 + 9 * p' ∨ 182 + 9 * p' + x ≤ j) → υ 95 j = σ1 95 j) → (∀ y : Nat, y < x → υ 95 (182 + 9 * p' + y) = fw_c (σ1 95 (182 + 9 * q' + y))) →
      G 76 [some (2, 93, 0), some (0, 0, (p' : Int)), some (0, 0, (q' : Int)), some (0, 0, cd_n (σ 95) (182 + 9 * p') (182 + 9 * q') N), some (0, 0, (x : Int))] [] υ := by
    intro σ1 hs hne f
    have z0 : σ1 95 0 = (N : Int) := (hs.1 95 0 (by decide)).trans ((congrFun k95 0).trans hN)
    induction f with
    | zero =>
      intro x υ hx M a1 a2
      have ex : fw_c (x : Int) = (x : Int) := fw_c_id (by omega) (by omega)
      refine fs_m_copies_76 hG ⟨rfl, fs_m_copies_82 hG ?_⟩
      rw [a1 0 (by omega), z0, eN, ex]
      have e : x = N := by omega
      subst e
      exact ⟨fun _ => hh hne υ ⟨σ1, hs, M, a1, a2⟩, fun z => absurd z (by omega)⟩
    | succ f ih =>
      intro x υ hx M a1 a2
      have ex : fw_c (x : Int) = (x : Int) := fw_c_id (by omega) (by omega)
      have ej : fw_c ((182 + 9 * (p' : Int)) + (x : Int)) = ((182 + 9 * p' + x : Nat) : Int) := by rw [fw_c_id (by omega) (by omega)]; omega
      refine fs_m_copies_76 hG ⟨rfl, fs_m_copies_82 hG ?_⟩
      rw [a1 0 (by omega), z0, eN, ex]
      refine ⟨fun z => absurd z (by omega), fun _ => ⟨q', x, rfl, by omega, by omega, fs_m_copies_107 hG ?_⟩⟩
      rw [ej, Int.toNat_natCast]
      refine ⟨⟨Int.natCast_nonneg _, by omega⟩, trivial, ih (x + 1) _ (by omega) (fw_okM_upa M (by decide)) (fun j hj => ?_) (fun y hy => ?_)⟩
      · rw [ab_ups_ne (fun z => by omega)]; exact a1 j (by omega)
      · by_cases c : y = x
        · rw [c, ab_ups_eq, a1 (182 + 9 * q' + x) (by omega)]
        · rw [ab_ups_ne (fun z => by omega)]; exact a2 y (by omega)
  have loop1 : ∀ (f x : Nat), x + f = N → G 28 [some (2, 93, 0), some (0, 0, (p' : Int)), some (0, 0, (q' : Int)), some (0, 0, cd_n (σ 95) (182 + 9 * p') (182 + 9 * q') x), some (0, 0, (x : Int))] [] (ab_ups σ 93 0 0) := by
    intro f
    induction f with
    | zero =>
      intro x hx
      have ex : fw_c (x : Int) = (x : Int) := fw_c_id (by omega) (by omega)
      refine fs_m_copies_28 hG ⟨rfl, fs_m_copies_34 hG ?_⟩
      rw [k95, hN, eN, ex]
      have e : x = N := by omega
      subst e
      rw [fw_c_id (x := cd_n (σ 95) (182 + 9 * p') (182 + 9 * q') x) (by omega) (by omega)]
      refine ⟨fun _ => ⟨fun z => ⟨rfl, ?_, fun σ1 hs => fs_m_copies_73 hG (loop2 σ1 hs z x 0 σ1 (Nat.zero_add _) (fw_okM_refl _ _) (fun _ _ => rfl) (fun y hy => absurd hy (Nat.not_lt_zero _)))⟩, fun z => hz z⟩, fun z => absurd z (by omega)⟩
      rw [ab_ups_ne (fun z => absurd z.2 (by decide))]
      exact w24
    | succ f ih =>
      intro x hx
      have ex : fw_c (x : Int) = (x : Int) := fw_c_id (by omega) (by omega)
      have hn := ih (x + 1) (by omega)
      have cb := cd_b (σ 95) (182 + 9 * p') (182 + 9 * q') x
      refine fs_m_copies_28 hG ⟨rfl, fs_m_copies_34 hG ?_⟩
      rw [k95, hN, eN, ex]
      refine ⟨fun z => absurd z (by omega), fun _ => ⟨p', x, rfl, by omega, by omega, fs_m_copies_44 hG ⟨q', x, rfl, by omega, by omega, fs_m_copies_51 hG ?_⟩⟩⟩
      rw [k95]
      rw [cd_s] at hn
      refine ⟨fun z => fs_m_copies_57 hG ?_, fun z => fs_m_copies_57 hG ?_⟩
      · rw [if_pos z] at hn
        exact hn
      · rw [if_neg z] at hn
        exact hn
  exact loop1 N 0 (Nat.zero_add _))
theorem fm_copies (hinj : nn_inj ad) : fw_H l cy ad wr cr D 140 3 sp_copies := fw_mk hinj (⟨"NameNotes", "copies", "(II)I"⟩, prog_1_method_39_code, 5, (Option.some Jvm.ClassFile.FieldType.int), 2, true, 0) rfl rfl nn_KI1_ok nn_KJ1_ok nn_PF1_ok nn_PS1_ok (by decide +kernel) rfl rfl (List.forall_mem_cons.mpr ⟨fw_row nn_PM1_ok (x := 173) (k := 0) (mn := 67) (np := 1) (ob := true) (ci := 6) (⟨"NameNotes$Studio", "isPerson", "(I)Z"⟩, prog_8_method_6_code, 2, (Option.some Jvm.ClassFile.FieldType.boolean), 1, true, 1) rfl (by decide +kernel) rfl rfl (by decide) (fun _ => ⟨_, _, rfl⟩) (fm_isPerson3 hinj), (List.forall_mem_cons.mpr ⟨fw_row nn_PM1_ok (x := 176) (k := 0) (mn := 68) (np := 2) (ob := true) (ci := 6) (⟨"NameNotes$Studio", "ninth", "(II)I"⟩, prog_8_method_13_code, 3, (Option.some Jvm.ClassFile.FieldType.int), 2, true, 0) rfl (by decide +kernel) rfl rfl (by decide) (fun _ => ⟨_, _, rfl⟩) (fm_ninth3 hinj), (List.forall_mem_cons.mpr ⟨fw_row nn_PM1_ok (x := 339) (k := 0) (mn := 131) (np := 2) (ob := true) (ci := 3) (⟨"NameNotes$Journal", "keep", "(LNameNotes$Studio;I)V"⟩, prog_5_method_2_code, 5, (Option.none : Option Jvm.ClassFile.FieldType), 2, true, 4) rfl (by decide +kernel) rfl rfl (by decide) (fun _ => ⟨_, _, rfl⟩) (fm_keep hinj), (List.forall_mem_cons.mpr ⟨fw_row nn_PM1_ok (x := 343) (k := 0) (mn := 37) (np := 3) (ob := true) (ci := 6) (⟨"NameNotes$Studio", "setNinth", "(III)V"⟩, prog_8_method_14_code, 4, (Option.none : Option Jvm.ClassFile.FieldType), 3, true, 4) rfl (by decide +kernel) rfl rfl (by decide) (fun _ => ⟨_, _, rfl⟩) (fm_setNinth3 hinj), (fun _ h => absurd h List.not_mem_nil)⟩)⟩)⟩)⟩) (fun as σ K h => by
  obtain ⟨p, q, rfl, ⟨ep, e2⟩, ⟨w0, w2, w24⟩, h0, h1⟩ := h
  refine ⟨rfl, fun G hG => fs_copies_0 hG ⟨p, rfl, fs_copies_8 hG ?_⟩⟩
  refine ⟨fun z => h0 (fun y => absurd (y.1.symm.trans (m_b_eq z)) (by decide)), fun z => ⟨q, rfl, fs_copies_19 hG ?_⟩⟩
  have qp := m_b_ne z
  refine ⟨fun z => ?_, fun z => h0 (fun y => absurd (y.2.symm.trans (m_b_eq z)) (by decide))⟩
  have qq := m_b_ne z
  have p1 := c_pe_t qp
  have q1 := c_pe_t qq
  rw [ep, fw_c_id (x := σ 3 13) (by omega) (by omega)] at p1
  rw [e2, fw_c_id (x := σ 3 13) (by omega) (by omega)] at q1
  obtain ⟨p', rfl⟩ := Int.eq_ofNat_of_zero_le p1.1
  obtain ⟨q', rfl⟩ := Int.eq_ofNat_of_zero_le q1.1
  obtain ⟨N, hN⟩ := Int.eq_ofNat_of_zero_le w0.1
  obtain ⟨hz, hh⟩ := h1 p' q' N rfl rfl qp qq hN
  have eN : fw_c (N : Int) = (N : Int) := fw_c_id (by omega) (by omega)
  have cdN := cd_b (σ 9) (9 * p') (9 * q') N
  have loop2 : ∀ (σ1 : ab_SG), kj_is σ σ1 p' → cd_n (σ 9) (9 * p') (9 * q') N ≠ 0 → ∀ (f x : Nat) (υ : ab_SG), x + f = N → ab_okM [(9, 1000000)] σ1 υ → (∀ j : Nat, (j < 9 * p' ∨ 9 * p' + x ≤ j) → υ 9 j = σ1 9 j) → (∀ y : Nat, y < x → υ 9 (9 * p' + y) = fw_c (σ1 9 (9 * q' + y))) →
      G 92 [some (2, 0, 0), some (0, 0, (p' : Int)), some (0, 0, (q' : Int)), some (0, 0, cd_n (σ 9) (9 * p') (9 * q') N), some (0, 0, (x : Int))] [] υ := by
    intro σ1 hs hne f
    have z0 : σ1 3 11 = (N : Int) := (hs.1 3 11 (by decide)).trans hN
    induction f with
    | zero =>
      intro x υ hx M a1 a2
      have ex : fw_c (x : Int) = (x : Int) := fw_c_id (by omega) (by omega)
      refine fs_copies_92 hG ?_
      rw [M 3 11 (by decide), z0, eN, ex]
      have e : x = N := by omega
      subst e
      exact ⟨fun _ => hh hne υ ⟨σ1, hs, M, a1, a2⟩, fun z => absurd z (by omega)⟩
    | succ f ih =>
      intro x υ hx M a1 a2
      have ex : fw_c (x : Int) = (x : Int) := fw_c_id (by omega) (by omega)
      refine fs_copies_92 hG ?_
      rw [M 3 11 (by decide), z0, eN, ex]
      refine ⟨fun z => absurd z (by omega), fun _ => ⟨q', x, rfl, by omega, by omega, fs_copies_121 hG ⟨p', x, _, rfl, by omega, by omega, fs_copies_124 hG ?_⟩⟩⟩
      refine ih (x + 1) _ (by omega) (fw_okM_upa M (by decide)) (fun j hj => ?_) (fun y hy => ?_)
      · rw [ab_ups_ne (fun z => by omega)]; exact a1 j (by omega)
      · by_cases c : y = x
        · rw [c, ab_ups_eq, a1 (9 * q' + x) (by omega)]
        · rw [ab_ups_ne (fun z => by omega)]; exact a2 y (by omega)
  have loop1 : ∀ (f x : Nat), x + f = N → G 29 [some (2, 0, 0), some (0, 0, (p' : Int)), some (0, 0, (q' : Int)), some (0, 0, cd_n (σ 9) (9 * p') (9 * q') x), some (0, 0, (x : Int))] [] σ := by
    intro f
    induction f with
    | zero =>
      intro x hx
      have ex : fw_c (x : Int) = (x : Int) := fw_c_id (by omega) (by omega)
      refine fs_copies_29 hG ?_
      rw [hN, eN, ex]
      have e : x = N := by omega
      subst e
      rw [fw_c_id (x := cd_n (σ 9) (9 * p') (9 * q') x) (by omega) (by omega)]
      refine ⟨fun _ => ⟨fun z => ?_, fun z => ⟨p', rfl, by omega, w24, fun σ1 hs => fs_copies_89 hG (loop2 σ1 hs (by omega) x 0 σ1 (Nat.zero_add _) (fw_okM_refl _ _) (fun _ _ => rfl) (fun y hy => absurd hy (Nat.not_lt_zero _)))⟩⟩, fun z => absurd z (by omega)⟩
      have e0 : cd_n (σ 9) (9 * p') (9 * q') x = 0 := by omega
      rw [e0]
      exact hz e0
    | succ f ih =>
      intro x hx
      have ex : fw_c (x : Int) = (x : Int) := fw_c_id (by omega) (by omega)
      have hn := ih (x + 1) (by omega)
      refine fs_copies_29 hG ?_
      rw [hN, eN, ex]
      refine ⟨fun z => absurd z (by omega), fun _ => ⟨p', x, rfl, by omega, by omega, fs_copies_51 hG ⟨q', x, rfl, by omega, by omega, fs_copies_61 hG ?_⟩⟩⟩
      rw [cd_s] at hn
      refine ⟨fun z => fs_copies_67 hG ?_, fun z => fs_copies_67 hG ?_⟩
      · rw [if_pos z] at hn
        exact hn
      · rw [if_neg z] at hn
        exact hn
  exact loop1 N 0 (Nat.zero_add _))
end
end
