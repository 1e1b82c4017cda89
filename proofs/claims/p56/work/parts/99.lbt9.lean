/-! ranks; the commonest pitch -/
theorem v_meas_b {A : ab_SG} (hi : RI A) (hb : nb_is A) {x : Nat} (hx : (x : Int) < A 49 11) (w : Int) : 0 ≤ v_meas A x w ∧ v_meas A x w ≤ 100 := by
  obtain ⟨s9, s1, s2⟩ := N_sz hi hb hx
  have e : (((A 52 x).toNat : Nat) : Int) ≤ A 52 x := by omega
  have a := v_max_b hb hx (A 52 x).toNat e
  have b := v_min_b hb hx (A 52 x).toNat e
  have c := v_sum_b hb hx (A 52 x).toNat e
  unfold v_meas
  split
  · omega
  · split
    · omega
    · split <;> omega
def sp_icmp : fw_SP := fun as σ K => ∃ x y : Int, as = [(0, 0, x), (0, 0, y)] ∧ (fw_c x = x ∧ fw_c y = y) ∧ K (some (0, 0, if x < y then -1 else if x = y then 0 else 1)) σ
abbrev fk_icmp : List fw_CR := []
abbrev st_icmp : fw_K → fw_KR → fw_K := fw_st vwCl nn_sh nn_kd fw_kv fw_wc (nn_KI12.map (fun x => x.1)) (nn_KJ12.map (fun x => x.1)) (nn_PF12.map (fun x => x.1)) (nn_PS12.map (fun x => x.1)) fk_icmp 0 nn_dt148 2 0
theorem fs_icmp_0 {G : fw_K} {R : fw_KR} (hG : fw_cls st_icmp R G) {x y : Int} {σ : ab_SG} (h : (fw_c y ≤ fw_c x → (fw_c x ≠ fw_c y → R (some (0, 0, 1)) σ) ∧ (fw_c x = fw_c y → R (some (0, 0, 0)) σ)) ∧ (fw_c x < fw_c y → R (some (0, 0, (-1))) σ)) : G 0 [some (0, 0, x), some (0, 0, y)] [] σ := fw_on hG [] 200 h
section
variable {l : Launch} {cy : Nat → ClassId} {ad wr cr : Nat → Nat} {D : va_G}
theorem fm_icmp (hinj : nn_inj ad) : fw_H l cy ad wr cr D 148 0 sp_icmp := fw_mk hinj (⟨"java/lang/Integer", "compare", "(II)I"⟩, prog_20_method_40_code, 2, (Option.some Jvm.ClassFile.FieldType.int), 2, false, 0) rfl rfl nn_KI12_ok nn_KJ12_ok nn_PF12_ok nn_PS12_ok (by decide +kernel) rfl rfl (fun _ h => absurd h List.not_mem_nil) (fun as σ K h => by
  obtain ⟨x, y, rfl, ⟨ex, ey⟩, h⟩ := h
  refine ⟨rfl, fun G hG => fs_icmp_0 hG ?_⟩
  rw [ex, ey]
  refine ⟨fun q => ⟨fun q2 => ?_, fun q2 => ?_⟩, fun q => ?_⟩
  · rw [if_neg (by omega), if_neg q2] at h
    exact h
  · rw [if_neg (by omega), if_pos q2] at h
    exact h
  · rw [if_pos q] at h
    exact h)
end
