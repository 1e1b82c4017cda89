/-! contracts over known numbers, with this place's tables -/
def fw_kv (k j : Nat) : Int := match k with
  | 1 => ([1, 9, 81, 729, 6561, 59049, 531441, 4782969, 43046721, 387420489] : List Int).getD j 0
  | 2 => ([2520, 1260, 840, 630, 504, 420, 360, 315, 280] : List Int).getD j 0
  | _ => 0
def fw_wc (i : Nat) : Int := ([677317, 111269, 542723566, 12009203, 132677, 215533, 460197, 498, 1476, 14836, 302, 644677, 402789, 15192243, 271592, 12791, 2262675] : List Int).getD i 0
abbrev fw_H (l : Launch) (cy : Nat → ClassId) (ad wr cr : Nat → Nat) (D : va_G) (mn lev : Nat) (sp : fw_SP) : Prop := fw_hold l cy ad wr cr D vwCl nn_sh nn_NW nn_kd fw_kv fw_wc nn_TT nn_MT mn lev sp
abbrev fw_R (l : Launch) (cy : Nat → ClassId) (ad wr cr : Nat → Nat) (D : va_G) (own : String) (q : fw_CR) : Prop := fw_rok l cy ad wr cr D vwCl nn_sh nn_NW nn_kd fw_kv fw_wc nn_TT nn_TT nn_MT own q
theorem fw_row {l : Launch} {cy : Nat → ClassId} {ad wr cr : Nat → Nat} {D : va_G} {own : String} {PM : ab_PC2} (hPM : ∀ q ∈ PM, ab_mlk nn_MT nn_TT nn_NW own q) {x np ci lev mn k : Nat} {ob : Bool} {sp : fw_SP} (mr : ab_MR) (h1 : nn_MT[mn]? = some mr) (h2 : (x, k, mn) ∈ PM) (h3 : mr.2.2.2.2.1 = np) (h4 : mr.2.2.2.2.2.1 = ob) (h5 : mr.2.2.1 ≤ 21)
    (h6 : ob = true → ∃ (T9 : u_T) (N9 : Nat), vwCl[ci]? = some (mr.1.cls, T9, N9)) (h : fw_H l cy ad wr cr D mn lev sp) : fw_R l cy ad wr cr D own (x, np, ob, ci, lev, sp) := ⟨mn, k, mr, h1, h3, h4, h5, h6, hPM _ h2, h⟩
theorem fw_mk {l : Launch} {cy : Nat → ClassId} {ad wr cr : Nat → Nat} {D : va_G} {own : String} {KI KJ : List (Nat × Int)} {PF : ab_PT} {PS : ab_PS} {FK : List fw_CR} {lev rk mn : Nat} {dt : ab_DT} {sp : fw_SP} (hinj : nn_inj ad) (mr : ab_MR) (h1 : nn_MT[mn]? = some mr) (h2 : nn_DT[mn]? = some dt)
    (hKI : ∀ q ∈ KI, Jvm.Cond.constant own q.1 (Int32.ofInt q.2) ∈ nn_TT) (hKJ : ∀ q ∈ KJ, Jvm.Cond.constantLong own q.1 (Int64.ofInt q.2) ∈ nn_TT) (hPF : ∀ q ∈ PF, ab_fok vwCl nn_TT own q) (hPS : ∀ q ∈ PS, ab_psok nn_TT nn_kd own q)
    (hy : plainName mr.1.cls = true) (hown : mr.1.cls = own) (hrk : nn_rkB rk mr.2.2.2.1 = true) (hFK : ∀ q ∈ FK, fw_R l cy ad wr cr D own q)
    (hgo : ∀ (as : List ab_AV) (σ : ab_SG) (K : fw_KR), sp as σ K → (ab_cat as).ble mr.2.2.1 = true ∧ ∀ G : fw_K, fw_cls (fw_st vwCl nn_sh nn_kd fw_kv fw_wc KI KJ PF PS FK lev dt mr.2.2.1 rk) K G → G 0 (fw_en mr.2.2.1 as) [] σ) : fw_H l cy ad wr cr D mn lev sp :=
  fw_met mr h1 hinj nn_TT_good nn_MT_code hKI hKJ hPF hPS hy hown (nn_rk_ok hrk) hFK (nn_DT_ok h1 h2) hgo
def fw_bo (p : Prop) [Decidable p] : Int := if p then 1 else 0
theorem fw_bo_t {p : Prop} [Decidable p] (h : p) : fw_bo p = 1 := if_pos h
theorem fw_bo_f {p : Prop} [Decidable p] (h : ¬ p) : fw_bo p = 0 := if_neg h
theorem fw_c0 : fw_c 0 = 0 := fw_c_id (by decide) (by decide)
theorem fw_c1 : fw_c 1 = 1 := fw_c_id (by decide) (by decide)
theorem fw_bo_c {p : Prop} [Decidable p] : fw_c (fw_bo p) = fw_bo p := by
  unfold fw_bo
  split
  · exact fw_c1
  · exact fw_c0
theorem fw_bo_in {p : Prop} [Decidable p] : 0 ≤ fw_c (fw_bo p) ∧ fw_c (fw_bo p) ≤ 1 := by
  rw [fw_bo_c]
  unfold fw_bo
  split <;> decide
theorem fw_bo_ne {p : Prop} [Decidable p] (h : fw_c (fw_bo p) ≠ 0) : p := by
  by_cases hp : p
  · exact hp
  · exact absurd (by rw [fw_bo_c, fw_bo_f hp]) h
theorem fw_bo_eq {p : Prop} [Decidable p] (h : fw_c (fw_bo p) = 0) : ¬ p := fun hp => by
  rw [fw_bo_c, fw_bo_t hp] at h
  exact absurd h (by decide)
theorem fw_01 : 0 ≤ fw_c 0 ∧ fw_c 0 ≤ 1 := by rw [fw_c0]; decide
theorem fw_11 : 0 ≤ fw_c 1 ∧ fw_c 1 ≤ 1 := by rw [fw_c1]; decide
/-! the tape's small methods: what they do -/
def sp_isBlank : fw_SP := fun as σ K => ∃ x : Int, as = [(0, 0, x)] ∧ K (some (0, 0, fw_bo (fw_c x = 32 ∨ fw_c x = 10))) σ
def sp_isLetter : fw_SP := fun as σ K => ∃ x : Int, as = [(0, 0, x)] ∧ K (some (0, 0, fw_bo (97 ≤ fw_c x ∧ fw_c x ≤ 122))) σ
def sp_isDigit : fw_SP := fun as σ K => ∃ x : Int, as = [(0, 0, x)] ∧ K (some (0, 0, fw_bo (48 ≤ fw_c x ∧ fw_c x ≤ 57))) σ
def sp_isSign : fw_SP := fun as σ K => ∃ x : Int, as = [(0, 0, x)] ∧ K (some (0, 0, fw_bo (fw_c x = 59 ∨ (60 ≤ fw_c x ∧ fw_c x ≤ 62) ∨ fw_c x = 40 ∨ fw_c x = 41 ∨ fw_c x = 46))) σ
/-- byte i of the class's tape, nought behind it -/
def tp_lk (σ : ab_SG) (i : Int) : Int := if 0 ≤ fw_c i ∧ fw_c i < fw_c (σ 1 1) ∧ fw_c i < 940 then fw_op 8 (σ 2 (fw_c i).toNat) 255 else 0
def sp_look : fw_SP := fun as σ K => ∃ x : Int, as = [(2, 1, 0), (0, 0, x)] ∧ K (some (0, 0, tp_lk σ x)) σ
