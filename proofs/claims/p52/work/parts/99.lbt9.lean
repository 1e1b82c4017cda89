/-! odds as the reference reckons them: what she knows in row 106, ways in row 107 -/
theorem oz_NMM {M : ab_ML} {σ σ' A : ab_SG} (h : ab_okM M σ σ') (m : (M.all (fun q => !(q.1.beq 95)) && M.all (fun q => !(q.1.beq 99)) && mk_b M 93 22) = true) (hN : NM σ A) : NM σ' A := by
  rw [Bool.and_eq_true, Bool.and_eq_true] at m
  refine ⟨hN.1, hN.2.1, ?_⟩
  have e : mlN σ' = mlN σ := by
    funext j
    unfold mlN
    rw [mk_at h m.2, mk_row h m.1.1 j]
  rw [e, show σ' 99 = σ 99 from funext (mk_row h m.1.2)]
  exact hN.2.2
theorem on_kn {σ A : ab_SG} (h : NM σ A) {j : Nat} (hj : j < 45) : σ 95 (182 + j) = A 55 j := by
  have a := h.2.2.2.2.2.2.2.2.1 j hj
  rw [mlN_j (by omega)] at a
  exact a
theorem on_trans {M : ab_ML} {σ σ1 σ2 : ab_SG} (h1 : ab_okM M σ σ1) (h2 : ab_okM M σ1 σ2) : ab_okM M σ σ2 := fun a b q => (h2 a b q).trans (h1 a b q)
def sp_m_bits9 : fw_SP := fun as σ K => ∃ s : Int, as = [(0, 0, s)] ∧ (0 ≤ s ∧ s < 512) ∧ K (some (0, 0, ((oz_cnt (oz_P s) 9 : Nat) : Int))) σ
theorem on_bit : ∀ n : Nat, n < 512 → n ≠ 0 → fw_op 8 (n : Int) ((n : Int) - 1) = ((n &&& (n - 1) : Nat) : Int) ∧ (n &&& (n - 1)) < n ∧ oz_cnt (oz_P (n : Int)) 9 = 1 + oz_cnt (oz_P ((n &&& (n - 1) : Nat) : Int)) 9 := by decide +kernel
abbrev fk_m_bits9 : List fw_CR := []
abbrev st_m_bits9 : fw_K → fw_KR → fw_K := fw_st vwCl nn_sh nn_kd fw_kv fw_wc (nn_KI20.map (fun x => x.1)) (nn_KJ20.map (fun x => x.1)) (nn_PF20.map (fun x => x.1)) (nn_PS20.map (fun x => x.1)) fk_m_bits9 0 nn_dt274 3 0
theorem fs_m_bits9_0 {G : fw_K} {R : fw_KR} (hG : fw_cls st_m_bits9 R G) {s : Int} {σ : ab_SG} (h : G 4 [some (0, 0, s), some (0, 0, 0), some (0, 0, s)] [] σ) : G 0 [some (0, 0, s), none, none] [] σ := fw_on hG [4] 200 h
theorem fs_m_bits9_4 {G : fw_K} {R : fw_KR} (hG : fw_cls st_m_bits9 R G) {a0 a1 a2 : Int} {σ : ab_SG} (h : (fw_c a2 = 0 → R (some (0, 0, a1)) σ) ∧ (fw_c a2 ≠ 0 → G 4 [some (0, 0, a0), some (0, 0, a1 + 1), some (0, 0, fw_op 8 a2 (a2 - 1))] [] σ)) : G 4 [some (0, 0, a0), some (0, 0, a1), some (0, 0, a2)] [] σ := fw_on hG [4] 200 h
section
variable {l : Launch} {cy : Nat → ClassId} {ad wr cr : Nat → Nat} {D : va_G}
theorem fm_m_bits9 (hinj : nn_inj ad) : fw_H l cy ad wr cr D 274 0 sp_m_bits9 := fw_mk hinj (⟨"NameNotesModel", "bits", "(I)I"⟩, prog_14_method_10_code, 3, (Option.some Jvm.ClassFile.FieldType.int), 1, false, 0) rfl rfl nn_KI20_ok nn_KJ20_ok nn_PF20_ok nn_PS20_ok (by decide +kernel) rfl rfl (fun _ h => absurd h List.not_mem_nil) (fun as σ K h => by
  obtain ⟨s0, rfl, hs0, h⟩ := h
  obtain ⟨s, rfl⟩ := Int.eq_ofNat_of_zero_le hs0.1
  have e0 : oz_cnt (oz_P ((0 : Nat) : Int)) 9 = 0 := by decide +kernel
  refine ⟨rfl, fun G hG => fs_m_bits9_0 hG ?_⟩
  have loop : ∀ (f n : Nat) (v : Int), n ≤ f → n < 512 → K (some (0, 0, v + ((oz_cnt (oz_P (n : Int)) 9 : Nat) : Int))) σ → G 4 [some (0, 0, (s : Int)), some (0, 0, v), some (0, 0, (n : Int))] [] σ := by
    intro f
    induction f with
    | zero =>
      intro n v hn h6 hk
      have e : n = 0 := by omega
      subst e
      refine fs_m_bits9_4 hG ⟨fun _ => ?_, fun z => absurd fw_c0 z⟩
      rw [e0, show v + ((0 : Nat) : Int) = v from Int.add_zero v] at hk
      exact hk
    | succ f ih =>
      intro n v hn h6 hk
      have en : fw_c (n : Int) = (n : Int) := fw_s (by omega) (by omega)
      refine fs_m_bits9_4 hG ?_
      rw [en]
      refine ⟨fun z => ?_, fun z => ?_⟩
      · have e : n = 0 := by omega
        rw [e, e0, show v + ((0 : Nat) : Int) = v from Int.add_zero v] at hk
        exact hk
      · obtain ⟨b1, b2, b3⟩ := on_bit n h6 (by omega)
        rw [b1]
        refine ih (n &&& (n - 1)) (v + 1) (by omega) (by omega) ?_
        rw [b3, Int.natCast_add, ← Int.add_assoc] at hk
        exact hk
  refine loop s s 0 (Nat.le_refl s) (by omega) ?_
  rw [Int.zero_add]
  exact h)
end
