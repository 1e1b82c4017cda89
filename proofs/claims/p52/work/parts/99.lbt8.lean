/-! odds: what of a group she knows, by how many (polynomials as functions of the place), once as the reference sums it, once as the class does -/
def oz_cnt (P : Nat → Bool) : Nat → Nat
  | 0 => 0
  | y + 1 => cond (P y) (oz_cnt P y + 1) (oz_cnt P y)
/-! what the ear holds: rows 74, 75, the set in 73 -/
theorem oz_NCM {M : ab_ML} {σ σ' A : ab_SG} (h : ab_okM M σ σ') (m : rc_b M 3 = true) (hN : NC σ A) : NC σ' A := ⟨hN.1, hN.2.1, cn_cg hN.1 (cb_M h m) hN.2.2⟩
def oz_P (s : Int) : Nat → Bool := fun y => pr_hs s (y : Int)
def ob1 (x : Int) : Int := x - (fw_op 8 (fw_op 7 x 1) 1431655765)
def ob2 (x : Int) : Int := (fw_op 8 x 858993459) + (fw_op 8 (fw_op 7 x 2) 858993459)
def ob3 (x : Int) : Int := fw_op 8 (x + (fw_op 7 x 4)) 252645135
def ob4 (x : Int) : Int := x + (fw_op 7 x 8)
def ob5 (x : Int) : Int := x + (fw_op 7 x 16)
theorem ob_ex : ∀ s : Nat, s < 512 → fw_op 8 (ob5 (ob4 (ob3 (ob2 (ob1 (s : Int)))))) 63 = ((oz_cnt (oz_P (s : Int)) 9 : Nat) : Int) := by decide +kernel
def sp_bitc9 : fw_SP := fun as σ K => ∃ s : Int, as = [(0, 0, s)] ∧ (0 ≤ s ∧ s < 512) ∧ K (some (0, 0, ((oz_cnt (oz_P s) 9 : Nat) : Int))) σ
theorem oz_cnt_pos {s : Int} (h1 : 1 ≤ s) (h5 : s < 512) : 1 ≤ oz_cnt (oz_P s) 9 := by
  have k : ∀ t : Nat, t < 512 → 1 ≤ t → 1 ≤ oz_cnt (oz_P (t : Int)) 9 := by decide +kernel
  obtain ⟨t, rfl⟩ := Int.eq_ofNat_of_zero_le (show 0 ≤ s by omega)
  exact k t (by omega) (by omega)
theorem oz_kn_b {σ A : ab_SG} (h : NC σ A) {j : Nat} (hj : j < 45) : 0 ≤ A 55 j ∧ A 55 j ≤ 9 := h.2.1.2.2.1 j hj
theorem oz_cnt_le (P : Nat → Bool) : ∀ Y : Nat, oz_cnt P Y ≤ Y := by
  intro Y
  induction Y with
  | zero => exact Nat.le_refl 0
  | succ Y ih =>
    show cond (P Y) (oz_cnt P Y + 1) (oz_cnt P Y) ≤ Y + 1
    cases P Y with
    | false => show oz_cnt P Y ≤ Y + 1; omega
    | true => show oz_cnt P Y + 1 ≤ Y + 1; omega
abbrev fk_bitc9 : List fw_CR := []
abbrev st_bitc9 : fw_K → fw_KR → fw_K := fw_st vwCl nn_sh nn_kd fw_kv fw_wc (nn_KI12.map (fun x => x.1)) (nn_KJ12.map (fun x => x.1)) (nn_PF12.map (fun x => x.1)) (nn_PS12.map (fun x => x.1)) fk_bitc9 0 nn_dt88 1 0
theorem fs_bitc9_0 {G : fw_K} {R : fw_KR} (hG : fw_cls st_bitc9 R G) {s : Int} {σ : ab_SG} (h : G 10 [some (0, 0, s - (fw_op 8 (fw_op 7 s 1) 1431655765))] [] σ) : G 0 [some (0, 0, s)] [] σ := fw_on hG [10, 24, 34, 41, 48] 200 h
theorem fs_bitc9_10 {G : fw_K} {R : fw_KR} (hG : fw_cls st_bitc9 R G) {a0 : Int} {σ : ab_SG} (h : G 24 [some (0, 0, (fw_op 8 a0 858993459) + (fw_op 8 (fw_op 7 a0 2) 858993459))] [] σ) : G 10 [some (0, 0, a0)] [] σ := fw_on hG [10, 24, 34, 41, 48] 200 h
theorem fs_bitc9_24 {G : fw_K} {R : fw_KR} (hG : fw_cls st_bitc9 R G) {a0 : Int} {σ : ab_SG} (h : G 34 [some (0, 0, fw_op 8 (a0 + (fw_op 7 a0 4)) 252645135)] [] σ) : G 24 [some (0, 0, a0)] [] σ := fw_on hG [10, 24, 34, 41, 48] 200 h
theorem fs_bitc9_34 {G : fw_K} {R : fw_KR} (hG : fw_cls st_bitc9 R G) {a0 : Int} {σ : ab_SG} (h : G 41 [some (0, 0, a0 + (fw_op 7 a0 8))] [] σ) : G 34 [some (0, 0, a0)] [] σ := fw_on hG [10, 24, 34, 41, 48] 200 h
theorem fs_bitc9_41 {G : fw_K} {R : fw_KR} (hG : fw_cls st_bitc9 R G) {a0 : Int} {σ : ab_SG} (h : G 48 [some (0, 0, a0 + (fw_op 7 a0 16))] [] σ) : G 41 [some (0, 0, a0)] [] σ := fw_on hG [10, 24, 34, 41, 48] 200 h
theorem fs_bitc9_48 {G : fw_K} {R : fw_KR} (hG : fw_cls st_bitc9 R G) {a0 : Int} {σ : ab_SG} (h : R (some (0, 0, fw_op 8 a0 63)) σ) : G 48 [some (0, 0, a0)] [] σ := fw_on hG [10, 24, 34, 41, 48] 200 h
section
variable {l : Launch} {cy : Nat → ClassId} {ad wr cr : Nat → Nat} {D : va_G}
theorem fm_bitc9 (hinj : nn_inj ad) : fw_H l cy ad wr cr D 88 0 sp_bitc9 := fw_mk hinj (⟨"java/lang/Integer", "bitCount", "(I)I"⟩, prog_20_method_49_code, 1, (Option.some Jvm.ClassFile.FieldType.int), 1, false, 0) rfl rfl nn_KI12_ok nn_KJ12_ok nn_PF12_ok nn_PS12_ok (by decide +kernel) rfl rfl (fun _ h => absurd h List.not_mem_nil) (fun as σ K h => by
  obtain ⟨s, rfl, hs, h⟩ := h
  obtain ⟨t, rfl⟩ := Int.eq_ofNat_of_zero_le hs.1
  rw [← ob_ex t (by omega)] at h
  refine ⟨rfl, fun G hG => ?_⟩
  have g5 : G 48 [some (0, 0, ob5 (ob4 (ob3 (ob2 (ob1 (t : Int))))))] [] σ := fs_bitc9_48 hG h
  have g4 : G 41 [some (0, 0, ob4 (ob3 (ob2 (ob1 (t : Int)))))] [] σ := fs_bitc9_41 hG g5
  have g3 : G 34 [some (0, 0, ob3 (ob2 (ob1 (t : Int))))] [] σ := fs_bitc9_34 hG g4
  have g2 : G 24 [some (0, 0, ob2 (ob1 (t : Int)))] [] σ := fs_bitc9_24 hG g3
  have g1 : G 10 [some (0, 0, ob1 (t : Int))] [] σ := fs_bitc9_10 hG g2
  exact fs_bitc9_0 hG g1)
end
