abbrev fk_at50 : List fw_CR := []
abbrev st_at50 : fw_K → fw_KR → fw_K := fw_st vwCl nn_sh nn_kd fw_kv fw_wc (nn_KI1.map (fun x => x.1)) (nn_KJ1.map (fun x => x.1)) (nn_PF1.map (fun x => x.1)) (nn_PS1.map (fun x => x.1)) fk_at50 0 nn_dt29 2 0
theorem fs_at50_0 {G : fw_K} {R : fw_KR} (hG : fw_cls st_at50 R G) {x : Int} {σ : ab_SG} (h : (fw_c x < 0 → R (some (0, 0, 0)) σ) ∧ (0 ≤ fw_c x → (fw_c ((81 : Nat) : Int) ≤ fw_c x → R (some (0, 0, 0)) σ) ∧ (fw_c x < fw_c ((81 : Nat) : Int) → (0 ≤ fw_c x ∧ fw_c x < ((81 : Nat) : Int)) ∧ (R (some (0, 0, σ 50 (fw_c x).toNat)) σ)))) : G 0 [some (2, 50, 0), some (0, 0, x)] [] σ := fw_on hG [] 200 h
abbrev fk_put50 : List fw_CR := []
abbrev st_put50 : fw_K → fw_KR → fw_K := fw_st vwCl nn_sh nn_kd fw_kv fw_wc (nn_KI1.map (fun x => x.1)) (nn_KJ1.map (fun x => x.1)) (nn_PF1.map (fun x => x.1)) (nn_PS1.map (fun x => x.1)) fk_put50 0 nn_dt27 3 4
theorem fs_put50_0 {G : fw_K} {R : fw_KR} (hG : fw_cls st_put50 R G) {x v : Int} {σ : ab_SG} (h : (fw_c x < 0 → R none σ) ∧ (0 ≤ fw_c x → (fw_c ((81 : Nat) : Int) ≤ fw_c x → R none σ) ∧ (fw_c x < fw_c ((81 : Nat) : Int) → (0 ≤ fw_c x ∧ fw_c x < ((81 : Nat) : Int)) ∧ True ∧ (R none (ab_ups σ 50 (fw_c x).toNat (fw_c v)))))) : G 0 [some (2, 50, 0), some (0, 0, x), some (0, 0, v)] [] σ := fw_on hG [] 200 h
abbrev fk_fill50 : List fw_CR := []
abbrev st_fill50 : fw_K → fw_KR → fw_K := fw_st vwCl nn_sh nn_kd fw_kv fw_wc (nn_KI1.map (fun x => x.1)) (nn_KJ1.map (fun x => x.1)) (nn_PF1.map (fun x => x.1)) (nn_PS1.map (fun x => x.1)) fk_fill50 0 nn_dt7 3 4
theorem fs_fill50_0 {G : fw_K} {R : fw_KR} (hG : fw_cls st_fill50 R G) {v : Int} {σ : ab_SG} (h : G 2 [some (2, 50, 0), some (0, 0, v), some (0, 0, 0)] [] σ) : G 0 [some (2, 50, 0), some (0, 0, v), none] [] σ := fw_on hG [2] 200 h
theorem fs_fill50_2 {G : fw_K} {R : fw_KR} (hG : fw_cls st_fill50 R G) {a1 a2 : Int} {σ : ab_SG} (h : (fw_c ((81 : Nat) : Int) ≤ fw_c a2 → R none σ) ∧ (fw_c a2 < fw_c ((81 : Nat) : Int) → (0 ≤ fw_c a2 ∧ fw_c a2 < ((81 : Nat) : Int)) ∧ True ∧ (G 2 [some (2, 50, 0), some (0, 0, a1), some (0, 0, a2 + 1)] [] (ab_ups σ 50 (fw_c a2).toNat (fw_c a1))))) : G 2 [some (2, 50, 0), some (0, 0, a1), some (0, 0, a2)] [] σ := fw_on hG [2] 200 h
abbrev fk_at51 : List fw_CR := []
abbrev st_at51 : fw_K → fw_KR → fw_K := fw_st vwCl nn_sh nn_kd fw_kv fw_wc (nn_KI1.map (fun x => x.1)) (nn_KJ1.map (fun x => x.1)) (nn_PF1.map (fun x => x.1)) (nn_PS1.map (fun x => x.1)) fk_at51 0 nn_dt29 2 0
theorem fs_at51_0 {G : fw_K} {R : fw_KR} (hG : fw_cls st_at51 R G) {x : Int} {σ : ab_SG} (h : (fw_c x < 0 → R (some (0, 0, 0)) σ) ∧ (0 ≤ fw_c x → (fw_c ((81 : Nat) : Int) ≤ fw_c x → R (some (0, 0, 0)) σ) ∧ (fw_c x < fw_c ((81 : Nat) : Int) → (0 ≤ fw_c x ∧ fw_c x < ((81 : Nat) : Int)) ∧ (R (some (0, 0, σ 51 (fw_c x).toNat)) σ)))) : G 0 [some (2, 51, 0), some (0, 0, x)] [] σ := fw_on hG [] 200 h
abbrev fk_put51 : List fw_CR := []
abbrev st_put51 : fw_K → fw_KR → fw_K := fw_st vwCl nn_sh nn_kd fw_kv fw_wc (nn_KI1.map (fun x => x.1)) (nn_KJ1.map (fun x => x.1)) (nn_PF1.map (fun x => x.1)) (nn_PS1.map (fun x => x.1)) fk_put51 0 nn_dt27 3 4
theorem fs_put51_0 {G : fw_K} {R : fw_KR} (hG : fw_cls st_put51 R G) {x v : Int} {σ : ab_SG} (h : (fw_c x < 0 → R none σ) ∧ (0 ≤ fw_c x → (fw_c ((81 : Nat) : Int) ≤ fw_c x → R none σ) ∧ (fw_c x < fw_c ((81 : Nat) : Int) → (0 ≤ fw_c x ∧ fw_c x < ((81 : Nat) : Int)) ∧ True ∧ (R none (ab_ups σ 51 (fw_c x).toNat (fw_c v)))))) : G 0 [some (2, 51, 0), some (0, 0, x), some (0, 0, v)] [] σ := fw_on hG [] 200 h
abbrev fk_fill51 : List fw_CR := []
abbrev st_fill51 : fw_K → fw_KR → fw_K := fw_st vwCl nn_sh nn_kd fw_kv fw_wc (nn_KI1.map (fun x => x.1)) (nn_KJ1.map (fun x => x.1)) (nn_PF1.map (fun x => x.1)) (nn_PS1.map (fun x => x.1)) fk_fill51 0 nn_dt7 3 4
theorem fs_fill51_0 {G : fw_K} {R : fw_KR} (hG : fw_cls st_fill51 R G) {v : Int} {σ : ab_SG} (h : G 2 [some (2, 51, 0), some (0, 0, v), some (0, 0, 0)] [] σ) : G 0 [some (2, 51, 0), some (0, 0, v), none] [] σ := fw_on hG [2] 200 h
theorem fs_fill51_2 {G : fw_K} {R : fw_KR} (hG : fw_cls st_fill51 R G) {a1 a2 : Int} {σ : ab_SG} (h : (fw_c ((81 : Nat) : Int) ≤ fw_c a2 → R none σ) ∧ (fw_c a2 < fw_c ((81 : Nat) : Int) → (0 ≤ fw_c a2 ∧ fw_c a2 < ((81 : Nat) : Int)) ∧ True ∧ (G 2 [some (2, 51, 0), some (0, 0, a1), some (0, 0, a2 + 1)] [] (ab_ups σ 51 (fw_c a2).toNat (fw_c a1))))) : G 2 [some (2, 51, 0), some (0, 0, a1), some (0, 0, a2)] [] σ := fw_on hG [2] 200 h
abbrev fk_at52 : List fw_CR := []
abbrev st_at52 : fw_K → fw_KR → fw_K := fw_st vwCl nn_sh nn_kd fw_kv fw_wc (nn_KI1.map (fun x => x.1)) (nn_KJ1.map (fun x => x.1)) (nn_PF1.map (fun x => x.1)) (nn_PS1.map (fun x => x.1)) fk_at52 0 nn_dt29 2 0
theorem fs_at52_0 {G : fw_K} {R : fw_KR} (hG : fw_cls st_at52 R G) {x : Int} {σ : ab_SG} (h : (fw_c x < 0 → R (some (0, 0, 0)) σ) ∧ (0 ≤ fw_c x → (fw_c ((9 : Nat) : Int) ≤ fw_c x → R (some (0, 0, 0)) σ) ∧ (fw_c x < fw_c ((9 : Nat) : Int) → (0 ≤ fw_c x ∧ fw_c x < ((9 : Nat) : Int)) ∧ (R (some (0, 0, σ 52 (fw_c x).toNat)) σ)))) : G 0 [some (2, 52, 0), some (0, 0, x)] [] σ := fw_on hG [] 200 h
abbrev fk_put52 : List fw_CR := []
abbrev st_put52 : fw_K → fw_KR → fw_K := fw_st vwCl nn_sh nn_kd fw_kv fw_wc (nn_KI1.map (fun x => x.1)) (nn_KJ1.map (fun x => x.1)) (nn_PF1.map (fun x => x.1)) (nn_PS1.map (fun x => x.1)) fk_put52 0 nn_dt27 3 4
theorem fs_put52_0 {G : fw_K} {R : fw_KR} (hG : fw_cls st_put52 R G) {x v : Int} {σ : ab_SG} (h : (fw_c x < 0 → R none σ) ∧ (0 ≤ fw_c x → (fw_c ((9 : Nat) : Int) ≤ fw_c x → R none σ) ∧ (fw_c x < fw_c ((9 : Nat) : Int) → (0 ≤ fw_c x ∧ fw_c x < ((9 : Nat) : Int)) ∧ True ∧ (R none (ab_ups σ 52 (fw_c x).toNat (fw_c v)))))) : G 0 [some (2, 52, 0), some (0, 0, x), some (0, 0, v)] [] σ := fw_on hG [] 200 h
abbrev fk_fill52 : List fw_CR := []
abbrev st_fill52 : fw_K → fw_KR → fw_K := fw_st vwCl nn_sh nn_kd fw_kv fw_wc (nn_KI1.map (fun x => x.1)) (nn_KJ1.map (fun x => x.1)) (nn_PF1.map (fun x => x.1)) (nn_PS1.map (fun x => x.1)) fk_fill52 0 nn_dt7 3 4
theorem fs_fill52_0 {G : fw_K} {R : fw_KR} (hG : fw_cls st_fill52 R G) {v : Int} {σ : ab_SG} (h : G 2 [some (2, 52, 0), some (0, 0, v), some (0, 0, 0)] [] σ) : G 0 [some (2, 52, 0), some (0, 0, v), none] [] σ := fw_on hG [2] 200 h
theorem fs_fill52_2 {G : fw_K} {R : fw_KR} (hG : fw_cls st_fill52 R G) {a1 a2 : Int} {σ : ab_SG} (h : (fw_c ((9 : Nat) : Int) ≤ fw_c a2 → R none σ) ∧ (fw_c a2 < fw_c ((9 : Nat) : Int) → (0 ≤ fw_c a2 ∧ fw_c a2 < ((9 : Nat) : Int)) ∧ True ∧ (G 2 [some (2, 52, 0), some (0, 0, a1), some (0, 0, a2 + 1)] [] (ab_ups σ 52 (fw_c a2).toNat (fw_c a1))))) : G 2 [some (2, 52, 0), some (0, 0, a1), some (0, 0, a2)] [] σ := fw_on hG [2] 200 h
abbrev fk_at54 : List fw_CR := []
abbrev st_at54 : fw_K → fw_KR → fw_K := fw_st vwCl nn_sh nn_kd fw_kv fw_wc (nn_KI1.map (fun x => x.1)) (nn_KJ1.map (fun x => x.1)) (nn_PF1.map (fun x => x.1)) (nn_PS1.map (fun x => x.1)) fk_at54 0 nn_dt29 2 0
theorem fs_at54_0 {G : fw_K} {R : fw_KR} (hG : fw_cls st_at54 R G) {x : Int} {σ : ab_SG} (h : (fw_c x < 0 → R (some (0, 0, 0)) σ) ∧ (0 ≤ fw_c x → (fw_c ((6 : Nat) : Int) ≤ fw_c x → R (some (0, 0, 0)) σ) ∧ (fw_c x < fw_c ((6 : Nat) : Int) → (0 ≤ fw_c x ∧ fw_c x < ((6 : Nat) : Int)) ∧ (R (some (0, 0, σ 54 (fw_c x).toNat)) σ)))) : G 0 [some (2, 54, 0), some (0, 0, x)] [] σ := fw_on hG [] 200 h
abbrev fk_put54 : List fw_CR := []
abbrev st_put54 : fw_K → fw_KR → fw_K := fw_st vwCl nn_sh nn_kd fw_kv fw_wc (nn_KI1.map (fun x => x.1)) (nn_KJ1.map (fun x => x.1)) (nn_PF1.map (fun x => x.1)) (nn_PS1.map (fun x => x.1)) fk_put54 0 nn_dt27 3 4
theorem fs_put54_0 {G : fw_K} {R : fw_KR} (hG : fw_cls st_put54 R G) {x v : Int} {σ : ab_SG} (h : (fw_c x < 0 → R none σ) ∧ (0 ≤ fw_c x → (fw_c ((6 : Nat) : Int) ≤ fw_c x → R none σ) ∧ (fw_c x < fw_c ((6 : Nat) : Int) → (0 ≤ fw_c x ∧ fw_c x < ((6 : Nat) : Int)) ∧ True ∧ (R none (ab_ups σ 54 (fw_c x).toNat (fw_c v)))))) : G 0 [some (2, 54, 0), some (0, 0, x), some (0, 0, v)] [] σ := fw_on hG [] 200 h
abbrev fk_fill54 : List fw_CR := []
abbrev st_fill54 : fw_K → fw_KR → fw_K := fw_st vwCl nn_sh nn_kd fw_kv fw_wc (nn_KI1.map (fun x => x.1)) (nn_KJ1.map (fun x => x.1)) (nn_PF1.map (fun x => x.1)) (nn_PS1.map (fun x => x.1)) fk_fill54 0 nn_dt7 3 4
theorem fs_fill54_0 {G : fw_K} {R : fw_KR} (hG : fw_cls st_fill54 R G) {v : Int} {σ : ab_SG} (h : G 2 [some (2, 54, 0), some (0, 0, v), some (0, 0, 0)] [] σ) : G 0 [some (2, 54, 0), some (0, 0, v), none] [] σ := fw_on hG [2] 200 h
theorem fs_fill54_2 {G : fw_K} {R : fw_KR} (hG : fw_cls st_fill54 R G) {a1 a2 : Int} {σ : ab_SG} (h : (fw_c ((6 : Nat) : Int) ≤ fw_c a2 → R none σ) ∧ (fw_c a2 < fw_c ((6 : Nat) : Int) → (0 ≤ fw_c a2 ∧ fw_c a2 < ((6 : Nat) : Int)) ∧ True ∧ (G 2 [some (2, 54, 0), some (0, 0, a1), some (0, 0, a2 + 1)] [] (ab_ups σ 54 (fw_c a2).toNat (fw_c a1))))) : G 2 [some (2, 54, 0), some (0, 0, a1), some (0, 0, a2)] [] σ := fw_on hG [2] 200 h
abbrev fk_at55 : List fw_CR := []
abbrev st_at55 : fw_K → fw_KR → fw_K := fw_st vwCl nn_sh nn_kd fw_kv fw_wc (nn_KI1.map (fun x => x.1)) (nn_KJ1.map (fun x => x.1)) (nn_PF1.map (fun x => x.1)) (nn_PS1.map (fun x => x.1)) fk_at55 0 nn_dt29 2 0
theorem fs_at55_0 {G : fw_K} {R : fw_KR} (hG : fw_cls st_at55 R G) {x : Int} {σ : ab_SG} (h : (fw_c x < 0 → R (some (0, 0, 0)) σ) ∧ (0 ≤ fw_c x → (fw_c ((45 : Nat) : Int) ≤ fw_c x → R (some (0, 0, 0)) σ) ∧ (fw_c x < fw_c ((45 : Nat) : Int) → (0 ≤ fw_c x ∧ fw_c x < ((45 : Nat) : Int)) ∧ (R (some (0, 0, σ 55 (fw_c x).toNat)) σ)))) : G 0 [some (2, 55, 0), some (0, 0, x)] [] σ := fw_on hG [] 200 h
abbrev fk_put55 : List fw_CR := []
abbrev st_put55 : fw_K → fw_KR → fw_K := fw_st vwCl nn_sh nn_kd fw_kv fw_wc (nn_KI1.map (fun x => x.1)) (nn_KJ1.map (fun x => x.1)) (nn_PF1.map (fun x => x.1)) (nn_PS1.map (fun x => x.1)) fk_put55 0 nn_dt27 3 4
theorem fs_put55_0 {G : fw_K} {R : fw_KR} (hG : fw_cls st_put55 R G) {x v : Int} {σ : ab_SG} (h : (fw_c x < 0 → R none σ) ∧ (0 ≤ fw_c x → (fw_c ((45 : Nat) : Int) ≤ fw_c x → R none σ) ∧ (fw_c x < fw_c ((45 : Nat) : Int) → (0 ≤ fw_c x ∧ fw_c x < ((45 : Nat) : Int)) ∧ True ∧ (R none (ab_ups σ 55 (fw_c x).toNat (fw_c v)))))) : G 0 [some (2, 55, 0), some (0, 0, x), some (0, 0, v)] [] σ := fw_on hG [] 200 h
abbrev fk_fill55 : List fw_CR := []
abbrev st_fill55 : fw_K → fw_KR → fw_K := fw_st vwCl nn_sh nn_kd fw_kv fw_wc (nn_KI1.map (fun x => x.1)) (nn_KJ1.map (fun x => x.1)) (nn_PF1.map (fun x => x.1)) (nn_PS1.map (fun x => x.1)) fk_fill55 0 nn_dt7 3 4
theorem fs_fill55_0 {G : fw_K} {R : fw_KR} (hG : fw_cls st_fill55 R G) {v : Int} {σ : ab_SG} (h : G 2 [some (2, 55, 0), some (0, 0, v), some (0, 0, 0)] [] σ) : G 0 [some (2, 55, 0), some (0, 0, v), none] [] σ := fw_on hG [2] 200 h
theorem fs_fill55_2 {G : fw_K} {R : fw_KR} (hG : fw_cls st_fill55 R G) {a1 a2 : Int} {σ : ab_SG} (h : (fw_c ((45 : Nat) : Int) ≤ fw_c a2 → R none σ) ∧ (fw_c a2 < fw_c ((45 : Nat) : Int) → (0 ≤ fw_c a2 ∧ fw_c a2 < ((45 : Nat) : Int)) ∧ True ∧ (G 2 [some (2, 55, 0), some (0, 0, a1), some (0, 0, a2 + 1)] [] (ab_ups σ 55 (fw_c a2).toNat (fw_c a1))))) : G 2 [some (2, 55, 0), some (0, 0, a1), some (0, 0, a2)] [] σ := fw_on hG [2] 200 h
abbrev fk_at56 : List fw_CR := []
abbrev st_at56 : fw_K → fw_KR → fw_K := fw_st vwCl nn_sh nn_kd fw_kv fw_wc (nn_KI1.map (fun x => x.1)) (nn_KJ1.map (fun x => x.1)) (nn_PF1.map (fun x => x.1)) (nn_PS1.map (fun x => x.1)) fk_at56 0 nn_dt29 2 0
theorem fs_at56_0 {G : fw_K} {R : fw_KR} (hG : fw_cls st_at56 R G) {x : Int} {σ : ab_SG} (h : (fw_c x < 0 → R (some (0, 0, 0)) σ) ∧ (0 ≤ fw_c x → (fw_c ((5 : Nat) : Int) ≤ fw_c x → R (some (0, 0, 0)) σ) ∧ (fw_c x < fw_c ((5 : Nat) : Int) → (0 ≤ fw_c x ∧ fw_c x < ((5 : Nat) : Int)) ∧ (R (some (0, 0, σ 56 (fw_c x).toNat)) σ)))) : G 0 [some (2, 56, 0), some (0, 0, x)] [] σ := fw_on hG [] 200 h
abbrev fk_put56 : List fw_CR := []
abbrev st_put56 : fw_K → fw_KR → fw_K := fw_st vwCl nn_sh nn_kd fw_kv fw_wc (nn_KI1.map (fun x => x.1)) (nn_KJ1.map (fun x => x.1)) (nn_PF1.map (fun x => x.1)) (nn_PS1.map (fun x => x.1)) fk_put56 0 nn_dt27 3 4
theorem fs_put56_0 {G : fw_K} {R : fw_KR} (hG : fw_cls st_put56 R G) {x v : Int} {σ : ab_SG} (h : (fw_c x < 0 → R none σ) ∧ (0 ≤ fw_c x → (fw_c ((5 : Nat) : Int) ≤ fw_c x → R none σ) ∧ (fw_c x < fw_c ((5 : Nat) : Int) → (0 ≤ fw_c x ∧ fw_c x < ((5 : Nat) : Int)) ∧ True ∧ (R none (ab_ups σ 56 (fw_c x).toNat (fw_c v)))))) : G 0 [some (2, 56, 0), some (0, 0, x), some (0, 0, v)] [] σ := fw_on hG [] 200 h
abbrev fk_fill56 : List fw_CR := []
abbrev st_fill56 : fw_K → fw_KR → fw_K := fw_st vwCl nn_sh nn_kd fw_kv fw_wc (nn_KI1.map (fun x => x.1)) (nn_KJ1.map (fun x => x.1)) (nn_PF1.map (fun x => x.1)) (nn_PS1.map (fun x => x.1)) fk_fill56 0 nn_dt7 3 4
theorem fs_fill56_0 {G : fw_K} {R : fw_KR} (hG : fw_cls st_fill56 R G) {v : Int} {σ : ab_SG} (h : G 2 [some (2, 56, 0), some (0, 0, v), some (0, 0, 0)] [] σ) : G 0 [some (2, 56, 0), some (0, 0, v), none] [] σ := fw_on hG [2] 200 h
theorem fs_fill56_2 {G : fw_K} {R : fw_KR} (hG : fw_cls st_fill56 R G) {a1 a2 : Int} {σ : ab_SG} (h : (fw_c ((5 : Nat) : Int) ≤ fw_c a2 → R none σ) ∧ (fw_c a2 < fw_c ((5 : Nat) : Int) → (0 ≤ fw_c a2 ∧ fw_c a2 < ((5 : Nat) : Int)) ∧ True ∧ (G 2 [some (2, 56, 0), some (0, 0, a1), some (0, 0, a2 + 1)] [] (ab_ups σ 56 (fw_c a2).toNat (fw_c a1))))) : G 2 [some (2, 56, 0), some (0, 0, a1), some (0, 0, a2)] [] σ := fw_on hG [2] 200 h
abbrev fk_at64 : List fw_CR := []
abbrev st_at64 : fw_K → fw_KR → fw_K := fw_st vwCl nn_sh nn_kd fw_kv fw_wc (nn_KI1.map (fun x => x.1)) (nn_KJ1.map (fun x => x.1)) (nn_PF1.map (fun x => x.1)) (nn_PS1.map (fun x => x.1)) fk_at64 0 nn_dt29 2 0
theorem fs_at64_0 {G : fw_K} {R : fw_KR} (hG : fw_cls st_at64 R G) {x : Int} {σ : ab_SG} (h : (fw_c x < 0 → R (some (0, 0, 0)) σ) ∧ (0 ≤ fw_c x → (fw_c ((5 : Nat) : Int) ≤ fw_c x → R (some (0, 0, 0)) σ) ∧ (fw_c x < fw_c ((5 : Nat) : Int) → (0 ≤ fw_c x ∧ fw_c x < ((5 : Nat) : Int)) ∧ (R (some (0, 0, σ 64 (fw_c x).toNat)) σ)))) : G 0 [some (2, 64, 0), some (0, 0, x)] [] σ := fw_on hG [] 200 h
abbrev fk_put64 : List fw_CR := []
abbrev st_put64 : fw_K → fw_KR → fw_K := fw_st vwCl nn_sh nn_kd fw_kv fw_wc (nn_KI1.map (fun x => x.1)) (nn_KJ1.map (fun x => x.1)) (nn_PF1.map (fun x => x.1)) (nn_PS1.map (fun x => x.1)) fk_put64 0 nn_dt27 3 4
theorem fs_put64_0 {G : fw_K} {R : fw_KR} (hG : fw_cls st_put64 R G) {x v : Int} {σ : ab_SG} (h : (fw_c x < 0 → R none σ) ∧ (0 ≤ fw_c x → (fw_c ((5 : Nat) : Int) ≤ fw_c x → R none σ) ∧ (fw_c x < fw_c ((5 : Nat) : Int) → (0 ≤ fw_c x ∧ fw_c x < ((5 : Nat) : Int)) ∧ True ∧ (R none (ab_ups σ 64 (fw_c x).toNat (fw_c v)))))) : G 0 [some (2, 64, 0), some (0, 0, x), some (0, 0, v)] [] σ := fw_on hG [] 200 h
abbrev fk_fill64 : List fw_CR := []
abbrev st_fill64 : fw_K → fw_KR → fw_K := fw_st vwCl nn_sh nn_kd fw_kv fw_wc (nn_KI1.map (fun x => x.1)) (nn_KJ1.map (fun x => x.1)) (nn_PF1.map (fun x => x.1)) (nn_PS1.map (fun x => x.1)) fk_fill64 0 nn_dt7 3 4
theorem fs_fill64_0 {G : fw_K} {R : fw_KR} (hG : fw_cls st_fill64 R G) {v : Int} {σ : ab_SG} (h : G 2 [some (2, 64, 0), some (0, 0, v), some (0, 0, 0)] [] σ) : G 0 [some (2, 64, 0), some (0, 0, v), none] [] σ := fw_on hG [2] 200 h
theorem fs_fill64_2 {G : fw_K} {R : fw_KR} (hG : fw_cls st_fill64 R G) {a1 a2 : Int} {σ : ab_SG} (h : (fw_c ((5 : Nat) : Int) ≤ fw_c a2 → R none σ) ∧ (fw_c a2 < fw_c ((5 : Nat) : Int) → (0 ≤ fw_c a2 ∧ fw_c a2 < ((5 : Nat) : Int)) ∧ True ∧ (G 2 [some (2, 64, 0), some (0, 0, a1), some (0, 0, a2 + 1)] [] (ab_ups σ 64 (fw_c a2).toNat (fw_c a1))))) : G 2 [some (2, 64, 0), some (0, 0, a1), some (0, 0, a2)] [] σ := fw_on hG [2] 200 h
abbrev fk_at53 : List fw_CR := []
abbrev st_at53 : fw_K → fw_KR → fw_K := fw_st vwCl nn_sh nn_kd fw_kv fw_wc (nn_KI1.map (fun x => x.1)) (nn_KJ1.map (fun x => x.1)) (nn_PF1.map (fun x => x.1)) (nn_PS1.map (fun x => x.1)) fk_at53 0 nn_dt29 2 0
theorem fs_at53_0 {G : fw_K} {R : fw_KR} (hG : fw_cls st_at53 R G) {x : Int} {σ : ab_SG} (h : (fw_c x < 0 → R (some (0, 0, 0)) σ) ∧ (0 ≤ fw_c x → (fw_c ((324 : Nat) : Int) ≤ fw_c x → R (some (0, 0, 0)) σ) ∧ (fw_c x < fw_c ((324 : Nat) : Int) → (0 ≤ fw_c x ∧ fw_c x < ((324 : Nat) : Int)) ∧ (R (some (0, 0, σ 53 (fw_c x).toNat)) σ)))) : G 0 [some (2, 53, 0), some (0, 0, x)] [] σ := fw_on hG [] 200 h
abbrev fk_put53 : List fw_CR := []
abbrev st_put53 : fw_K → fw_KR → fw_K := fw_st vwCl nn_sh nn_kd fw_kv fw_wc (nn_KI1.map (fun x => x.1)) (nn_KJ1.map (fun x => x.1)) (nn_PF1.map (fun x => x.1)) (nn_PS1.map (fun x => x.1)) fk_put53 0 nn_dt27 3 4
theorem fs_put53_0 {G : fw_K} {R : fw_KR} (hG : fw_cls st_put53 R G) {x v : Int} {σ : ab_SG} (h : (fw_c x < 0 → R none σ) ∧ (0 ≤ fw_c x → (fw_c ((324 : Nat) : Int) ≤ fw_c x → R none σ) ∧ (fw_c x < fw_c ((324 : Nat) : Int) → (0 ≤ fw_c x ∧ fw_c x < ((324 : Nat) : Int)) ∧ True ∧ (R none (ab_ups σ 53 (fw_c x).toNat (fw_c v)))))) : G 0 [some (2, 53, 0), some (0, 0, x), some (0, 0, v)] [] σ := fw_on hG [] 200 h
abbrev fk_fill53 : List fw_CR := []
abbrev st_fill53 : fw_K → fw_KR → fw_K := fw_st vwCl nn_sh nn_kd fw_kv fw_wc (nn_KI1.map (fun x => x.1)) (nn_KJ1.map (fun x => x.1)) (nn_PF1.map (fun x => x.1)) (nn_PS1.map (fun x => x.1)) fk_fill53 0 nn_dt7 3 4
theorem fs_fill53_0 {G : fw_K} {R : fw_KR} (hG : fw_cls st_fill53 R G) {v : Int} {σ : ab_SG} (h : G 2 [some (2, 53, 0), some (0, 0, v), some (0, 0, 0)] [] σ) : G 0 [some (2, 53, 0), some (0, 0, v), none] [] σ := fw_on hG [2] 200 h
theorem fs_fill53_2 {G : fw_K} {R : fw_KR} (hG : fw_cls st_fill53 R G) {a1 a2 : Int} {σ : ab_SG} (h : (fw_c ((324 : Nat) : Int) ≤ fw_c a2 → R none σ) ∧ (fw_c a2 < fw_c ((324 : Nat) : Int) → (0 ≤ fw_c a2 ∧ fw_c a2 < ((324 : Nat) : Int)) ∧ True ∧ (G 2 [some (2, 53, 0), some (0, 0, a1), some (0, 0, a2 + 1)] [] (ab_ups σ 53 (fw_c a2).toNat (fw_c a1))))) : G 2 [some (2, 53, 0), some (0, 0, a1), some (0, 0, a2)] [] σ := fw_on hG [2] 200 h
abbrev fk_putl57 : List fw_CR := []
abbrev st_putl57 : fw_K → fw_KR → fw_K := fw_st vwCl nn_sh nn_kd fw_kv fw_wc (nn_KI1.map (fun x => x.1)) (nn_KJ1.map (fun x => x.1)) (nn_PF1.map (fun x => x.1)) (nn_PS1.map (fun x => x.1)) fk_putl57 0 nn_dt26 4 4
theorem fs_putl57_0 {G : fw_K} {R : fw_KR} (hG : fw_cls st_putl57 R G) {x v : Int} {σ : ab_SG} (h : (fw_c x < 0 → R none σ) ∧ (0 ≤ fw_c x → (fw_c ((9 : Nat) : Int) ≤ fw_c x → R none σ) ∧ (fw_c x < fw_c ((9 : Nat) : Int) → (0 ≤ fw_c x ∧ fw_c x < ((9 : Nat) : Int)) ∧ True ∧ (R none (ab_ups σ 57 (fw_c x).toNat (fw_d v)))))) : G 0 [some (2, 57, 0), some (0, 0, x), some (1, 0, v), none] [] σ := fw_on hG [] 200 h
abbrev fk_isIn57 : List fw_CR := []
abbrev st_isIn57 : fw_K → fw_KR → fw_K := fw_st vwCl nn_sh nn_kd fw_kv fw_wc (nn_KI3.map (fun x => x.1)) (nn_KJ3.map (fun x => x.1)) (nn_PF3.map (fun x => x.1)) (nn_PS3.map (fun x => x.1)) fk_isIn57 0 nn_dt25 4 1
theorem fs_isIn57_0 {G : fw_K} {R : fw_KR} (hG : fw_cls st_isIn57 R G) {x : Int} {σ : ab_SG} (h : G 2 [some (2, 48, 0), some (2, 57, 0), some (0, 0, x), some (0, 0, 0)] [] σ) : G 0 [some (2, 48, 0), some (2, 57, 0), some (0, 0, x), none] [] σ := fw_on hG [2] 200 h
theorem fs_isIn57_2 {G : fw_K} {R : fw_KR} (hG : fw_cls st_isIn57 R G) {a2 a3 : Int} {σ : ab_SG} (h : (fw_c a2 ≤ fw_c a3 → (0 ≤ fw_c 0 ∧ fw_c 0 ≤ 1) ∧ R (some (0, 0, 0)) σ) ∧ (fw_c a3 < fw_c a2 → (fw_c ((9 : Nat) : Int) ≤ fw_c a3 → (0 ≤ fw_c 0 ∧ fw_c 0 ≤ 1) ∧ R (some (0, 0, 0)) σ) ∧ (fw_c a3 < fw_c ((9 : Nat) : Int) → (0 ≤ fw_c a3 ∧ fw_c a3 < ((9 : Nat) : Int)) ∧ ((fw_d (σ 57 (fw_c a3).toNat) ≠ fw_d (σ 1 6) → G 2 [some (2, 48, 0), some (2, 57, 0), some (0, 0, a2), some (0, 0, a3 + 1)] [] σ) ∧ (fw_d (σ 57 (fw_c a3).toNat) = fw_d (σ 1 6) → (0 ≤ fw_c 1 ∧ fw_c 1 ≤ 1) ∧ R (some (0, 0, 1)) σ))))) : G 2 [some (2, 48, 0), some (2, 57, 0), some (0, 0, a2), some (0, 0, a3)] [] σ := fw_on hG [2] 200 h
abbrev fk_seek57 : List fw_CR := [(87, 0, true, 8, 0, sp_isName), (91, 1, true, 8, 0, sp_refuse)]
abbrev st_seek57 : fw_K → fw_KR → fw_K := fw_st vwCl nn_sh nn_kd fw_kv fw_wc (nn_KI2.map (fun x => x.1)) (nn_KJ2.map (fun x => x.1)) (nn_PF2.map (fun x => x.1)) (nn_PS2.map (fun x => x.1)) fk_seek57 1 nn_dt33 4 0
theorem fs_seek57_0 {G : fw_K} {R : fw_KR} (hG : fw_cls st_seek57 R G) {x : Int} {σ : ab_SG} (h : sp_isName [(2, 1, 0)] σ (fun rv σ2 => G 4 [some (2, 1, 0), some (2, 57, 0), some (0, 0, x), none] (rv.toList ++ []) σ2)) : G 0 [some (2, 1, 0), some (2, 57, 0), some (0, 0, x), none] [] σ := fw_on hG [4, 12, 17, 47, 52] 200 h
theorem fs_seek57_4 {G : fw_K} {R : fw_KR} (hG : fw_cls st_seek57 R G) {a2 b0 : Int} {σ : ab_SG} (h : (fw_c b0 ≠ 0 → G 17 [some (2, 1, 0), some (2, 57, 0), some (0, 0, a2), some (0, 0, 0)] [] σ) ∧ (fw_c b0 = 0 → sp_refuse [(2, 1, 0), (0, 0, 1)] σ (fun rv σ2 => G 12 [some (2, 1, 0), some (2, 57, 0), some (0, 0, a2), none] (rv.toList ++ []) σ2))) : G 4 [some (2, 1, 0), some (2, 57, 0), some (0, 0, a2), none] [(0, 0, b0)] σ := fw_on hG [4, 12, 17, 47, 52] 200 h
theorem fs_seek57_17 {G : fw_K} {R : fw_KR} (hG : fw_cls st_seek57 R G) {a2 a3 : Int} {σ : ab_SG} (h : (fw_c a2 ≤ fw_c a3 → G 47 [some (2, 1, 0), some (2, 57, 0), some (0, 0, a2), some (0, 0, a3)] [] σ) ∧ (fw_c a3 < fw_c a2 → (fw_c ((9 : Nat) : Int) ≤ fw_c a3 → G 47 [some (2, 1, 0), some (2, 57, 0), some (0, 0, a2), some (0, 0, a3)] [] σ) ∧ (fw_c a3 < fw_c ((9 : Nat) : Int) → (0 ≤ fw_c a3 ∧ fw_c a3 < ((9 : Nat) : Int)) ∧ ((fw_d (σ 57 (fw_c a3).toNat) ≠ fw_d (σ 1 6) → G 17 [some (2, 1, 0), some (2, 57, 0), some (0, 0, a2), some (0, 0, a3 + 1)] [] σ) ∧ (fw_d (σ 57 (fw_c a3).toNat) = fw_d (σ 1 6) → R (some (0, 0, a3)) σ))))) : G 17 [some (2, 1, 0), some (2, 57, 0), some (0, 0, a2), some (0, 0, a3)] [] σ := fw_on hG [4, 12, 17, 47, 52] 200 h
theorem fs_seek57_12 {G : fw_K} {R : fw_KR} (hG : fw_cls st_seek57 R G) {a2 b0 : Int} {σ : ab_SG} (h : R (some (0, 0, (-1))) σ) : G 12 [some (2, 1, 0), some (2, 57, 0), some (0, 0, a2), none] [(0, 0, b0)] σ := fw_on hG [4, 12, 17, 47, 52] 200 h
theorem fs_seek57_47 {G : fw_K} {R : fw_KR} (hG : fw_cls st_seek57 R G) {a2 a3 : Int} {σ : ab_SG} (h : sp_refuse [(2, 1, 0), (0, 0, 3)] σ (fun rv σ2 => G 52 [some (2, 1, 0), some (2, 57, 0), some (0, 0, a2), some (0, 0, a3)] (rv.toList ++ []) σ2)) : G 47 [some (2, 1, 0), some (2, 57, 0), some (0, 0, a2), some (0, 0, a3)] [] σ := fw_on hG [4, 12, 17, 47, 52] 200 h
theorem fs_seek57_52 {G : fw_K} {R : fw_KR} (hG : fw_cls st_seek57 R G) {a2 a3 b0 : Int} {σ : ab_SG} (h : R (some (0, 0, (-1))) σ) : G 52 [some (2, 1, 0), some (2, 57, 0), some (0, 0, a2), some (0, 0, a3)] [(0, 0, b0)] σ := fw_on hG [4, 12, 17, 47, 52] 200 h
abbrev fk_putl58 : List fw_CR := []
abbrev st_putl58 : fw_K → fw_KR → fw_K := fw_st vwCl nn_sh nn_kd fw_kv fw_wc (nn_KI1.map (fun x => x.1)) (nn_KJ1.map (fun x => x.1)) (nn_PF1.map (fun x => x.1)) (nn_PS1.map (fun x => x.1)) fk_putl58 0 nn_dt26 4 4
theorem fs_putl58_0 {G : fw_K} {R : fw_KR} (hG : fw_cls st_putl58 R G) {x v : Int} {σ : ab_SG} (h : (fw_c x < 0 → R none σ) ∧ (0 ≤ fw_c x → (fw_c ((6 : Nat) : Int) ≤ fw_c x → R none σ) ∧ (fw_c x < fw_c ((6 : Nat) : Int) → (0 ≤ fw_c x ∧ fw_c x < ((6 : Nat) : Int)) ∧ True ∧ (R none (ab_ups σ 58 (fw_c x).toNat (fw_d v)))))) : G 0 [some (2, 58, 0), some (0, 0, x), some (1, 0, v), none] [] σ := fw_on hG [] 200 h
abbrev fk_isIn58 : List fw_CR := []
abbrev st_isIn58 : fw_K → fw_KR → fw_K := fw_st vwCl nn_sh nn_kd fw_kv fw_wc (nn_KI3.map (fun x => x.1)) (nn_KJ3.map (fun x => x.1)) (nn_PF3.map (fun x => x.1)) (nn_PS3.map (fun x => x.1)) fk_isIn58 0 nn_dt25 4 1
theorem fs_isIn58_0 {G : fw_K} {R : fw_KR} (hG : fw_cls st_isIn58 R G) {x : Int} {σ : ab_SG} (h : G 2 [some (2, 48, 0), some (2, 58, 0), some (0, 0, x), some (0, 0, 0)] [] σ) : G 0 [some (2, 48, 0), some (2, 58, 0), some (0, 0, x), none] [] σ := fw_on hG [2] 200 h
theorem fs_isIn58_2 {G : fw_K} {R : fw_KR} (hG : fw_cls st_isIn58 R G) {a2 a3 : Int} {σ : ab_SG} (h : (fw_c a2 ≤ fw_c a3 → (0 ≤ fw_c 0 ∧ fw_c 0 ≤ 1) ∧ R (some (0, 0, 0)) σ) ∧ (fw_c a3 < fw_c a2 → (fw_c ((6 : Nat) : Int) ≤ fw_c a3 → (0 ≤ fw_c 0 ∧ fw_c 0 ≤ 1) ∧ R (some (0, 0, 0)) σ) ∧ (fw_c a3 < fw_c ((6 : Nat) : Int) → (0 ≤ fw_c a3 ∧ fw_c a3 < ((6 : Nat) : Int)) ∧ ((fw_d (σ 58 (fw_c a3).toNat) ≠ fw_d (σ 1 6) → G 2 [some (2, 48, 0), some (2, 58, 0), some (0, 0, a2), some (0, 0, a3 + 1)] [] σ) ∧ (fw_d (σ 58 (fw_c a3).toNat) = fw_d (σ 1 6) → (0 ≤ fw_c 1 ∧ fw_c 1 ≤ 1) ∧ R (some (0, 0, 1)) σ))))) : G 2 [some (2, 48, 0), some (2, 58, 0), some (0, 0, a2), some (0, 0, a3)] [] σ := fw_on hG [2] 200 h
abbrev fk_seek58 : List fw_CR := [(87, 0, true, 8, 0, sp_isName), (91, 1, true, 8, 0, sp_refuse)]
abbrev st_seek58 : fw_K → fw_KR → fw_K := fw_st vwCl nn_sh nn_kd fw_kv fw_wc (nn_KI2.map (fun x => x.1)) (nn_KJ2.map (fun x => x.1)) (nn_PF2.map (fun x => x.1)) (nn_PS2.map (fun x => x.1)) fk_seek58 1 nn_dt33 4 0
theorem fs_seek58_0 {G : fw_K} {R : fw_KR} (hG : fw_cls st_seek58 R G) {x : Int} {σ : ab_SG} (h : sp_isName [(2, 1, 0)] σ (fun rv σ2 => G 4 [some (2, 1, 0), some (2, 58, 0), some (0, 0, x), none] (rv.toList ++ []) σ2)) : G 0 [some (2, 1, 0), some (2, 58, 0), some (0, 0, x), none] [] σ := fw_on hG [4, 12, 17, 47, 52] 200 h
theorem fs_seek58_4 {G : fw_K} {R : fw_KR} (hG : fw_cls st_seek58 R G) {a2 b0 : Int} {σ : ab_SG} (h : (fw_c b0 ≠ 0 → G 17 [some (2, 1, 0), some (2, 58, 0), some (0, 0, a2), some (0, 0, 0)] [] σ) ∧ (fw_c b0 = 0 → sp_refuse [(2, 1, 0), (0, 0, 1)] σ (fun rv σ2 => G 12 [some (2, 1, 0), some (2, 58, 0), some (0, 0, a2), none] (rv.toList ++ []) σ2))) : G 4 [some (2, 1, 0), some (2, 58, 0), some (0, 0, a2), none] [(0, 0, b0)] σ := fw_on hG [4, 12, 17, 47, 52] 200 h
theorem fs_seek58_17 {G : fw_K} {R : fw_KR} (hG : fw_cls st_seek58 R G) {a2 a3 : Int} {σ : ab_SG} (h : (fw_c a2 ≤ fw_c a3 → G 47 [some (2, 1, 0), some (2, 58, 0), some (0, 0, a2), some (0, 0, a3)] [] σ) ∧ (fw_c a3 < fw_c a2 → (fw_c ((6 : Nat) : Int) ≤ fw_c a3 → G 47 [some (2, 1, 0), some (2, 58, 0), some (0, 0, a2), some (0, 0, a3)] [] σ) ∧ (fw_c a3 < fw_c ((6 : Nat) : Int) → (0 ≤ fw_c a3 ∧ fw_c a3 < ((6 : Nat) : Int)) ∧ ((fw_d (σ 58 (fw_c a3).toNat) ≠ fw_d (σ 1 6) → G 17 [some (2, 1, 0), some (2, 58, 0), some (0, 0, a2), some (0, 0, a3 + 1)] [] σ) ∧ (fw_d (σ 58 (fw_c a3).toNat) = fw_d (σ 1 6) → R (some (0, 0, a3)) σ))))) : G 17 [some (2, 1, 0), some (2, 58, 0), some (0, 0, a2), some (0, 0, a3)] [] σ := fw_on hG [4, 12, 17, 47, 52] 200 h
theorem fs_seek58_12 {G : fw_K} {R : fw_KR} (hG : fw_cls st_seek58 R G) {a2 b0 : Int} {σ : ab_SG} (h : R (some (0, 0, (-1))) σ) : G 12 [some (2, 1, 0), some (2, 58, 0), some (0, 0, a2), none] [(0, 0, b0)] σ := fw_on hG [4, 12, 17, 47, 52] 200 h
theorem fs_seek58_47 {G : fw_K} {R : fw_KR} (hG : fw_cls st_seek58 R G) {a2 a3 : Int} {σ : ab_SG} (h : sp_refuse [(2, 1, 0), (0, 0, 3)] σ (fun rv σ2 => G 52 [some (2, 1, 0), some (2, 58, 0), some (0, 0, a2), some (0, 0, a3)] (rv.toList ++ []) σ2)) : G 47 [some (2, 1, 0), some (2, 58, 0), some (0, 0, a2), some (0, 0, a3)] [] σ := fw_on hG [4, 12, 17, 47, 52] 200 h
theorem fs_seek58_52 {G : fw_K} {R : fw_KR} (hG : fw_cls st_seek58 R G) {a2 a3 b0 : Int} {σ : ab_SG} (h : R (some (0, 0, (-1))) σ) : G 52 [some (2, 1, 0), some (2, 58, 0), some (0, 0, a2), some (0, 0, a3)] [(0, 0, b0)] σ := fw_on hG [4, 12, 17, 47, 52] 200 h
abbrev fk_putl59 : List fw_CR := []
abbrev st_putl59 : fw_K → fw_KR → fw_K := fw_st vwCl nn_sh nn_kd fw_kv fw_wc (nn_KI1.map (fun x => x.1)) (nn_KJ1.map (fun x => x.1)) (nn_PF1.map (fun x => x.1)) (nn_PS1.map (fun x => x.1)) fk_putl59 0 nn_dt26 4 4
theorem fs_putl59_0 {G : fw_K} {R : fw_KR} (hG : fw_cls st_putl59 R G) {x v : Int} {σ : ab_SG} (h : (fw_c x < 0 → R none σ) ∧ (0 ≤ fw_c x → (fw_c ((5 : Nat) : Int) ≤ fw_c x → R none σ) ∧ (fw_c x < fw_c ((5 : Nat) : Int) → (0 ≤ fw_c x ∧ fw_c x < ((5 : Nat) : Int)) ∧ True ∧ (R none (ab_ups σ 59 (fw_c x).toNat (fw_d v)))))) : G 0 [some (2, 59, 0), some (0, 0, x), some (1, 0, v), none] [] σ := fw_on hG [] 200 h
abbrev fk_isIn59 : List fw_CR := []
abbrev st_isIn59 : fw_K → fw_KR → fw_K := fw_st vwCl nn_sh nn_kd fw_kv fw_wc (nn_KI3.map (fun x => x.1)) (nn_KJ3.map (fun x => x.1)) (nn_PF3.map (fun x => x.1)) (nn_PS3.map (fun x => x.1)) fk_isIn59 0 nn_dt25 4 1
theorem fs_isIn59_0 {G : fw_K} {R : fw_KR} (hG : fw_cls st_isIn59 R G) {x : Int} {σ : ab_SG} (h : G 2 [some (2, 48, 0), some (2, 59, 0), some (0, 0, x), some (0, 0, 0)] [] σ) : G 0 [some (2, 48, 0), some (2, 59, 0), some (0, 0, x), none] [] σ := fw_on hG [2] 200 h
theorem fs_isIn59_2 {G : fw_K} {R : fw_KR} (hG : fw_cls st_isIn59 R G) {a2 a3 : Int} {σ : ab_SG} (h : (fw_c a2 ≤ fw_c a3 → (0 ≤ fw_c 0 ∧ fw_c 0 ≤ 1) ∧ R (some (0, 0, 0)) σ) ∧ (fw_c a3 < fw_c a2 → (fw_c ((5 : Nat) : Int) ≤ fw_c a3 → (0 ≤ fw_c 0 ∧ fw_c 0 ≤ 1) ∧ R (some (0, 0, 0)) σ) ∧ (fw_c a3 < fw_c ((5 : Nat) : Int) → (0 ≤ fw_c a3 ∧ fw_c a3 < ((5 : Nat) : Int)) ∧ ((fw_d (σ 59 (fw_c a3).toNat) ≠ fw_d (σ 1 6) → G 2 [some (2, 48, 0), some (2, 59, 0), some (0, 0, a2), some (0, 0, a3 + 1)] [] σ) ∧ (fw_d (σ 59 (fw_c a3).toNat) = fw_d (σ 1 6) → (0 ≤ fw_c 1 ∧ fw_c 1 ≤ 1) ∧ R (some (0, 0, 1)) σ))))) : G 2 [some (2, 48, 0), some (2, 59, 0), some (0, 0, a2), some (0, 0, a3)] [] σ := fw_on hG [2] 200 h
abbrev fk_seek59 : List fw_CR := [(87, 0, true, 8, 0, sp_isName), (91, 1, true, 8, 0, sp_refuse)]
abbrev st_seek59 : fw_K → fw_KR → fw_K := fw_st vwCl nn_sh nn_kd fw_kv fw_wc (nn_KI2.map (fun x => x.1)) (nn_KJ2.map (fun x => x.1)) (nn_PF2.map (fun x => x.1)) (nn_PS2.map (fun x => x.1)) fk_seek59 1 nn_dt33 4 0
theorem fs_seek59_0 {G : fw_K} {R : fw_KR} (hG : fw_cls st_seek59 R G) {x : Int} {σ : ab_SG} (h : sp_isName [(2, 1, 0)] σ (fun rv σ2 => G 4 [some (2, 1, 0), some (2, 59, 0), some (0, 0, x), none] (rv.toList ++ []) σ2)) : G 0 [some (2, 1, 0), some (2, 59, 0), some (0, 0, x), none] [] σ := fw_on hG [4, 12, 17, 47, 52] 200 h
theorem fs_seek59_4 {G : fw_K} {R : fw_KR} (hG : fw_cls st_seek59 R G) {a2 b0 : Int} {σ : ab_SG} (h : (fw_c b0 ≠ 0 → G 17 [some (2, 1, 0), some (2, 59, 0), some (0, 0, a2), some (0, 0, 0)] [] σ) ∧ (fw_c b0 = 0 → sp_refuse [(2, 1, 0), (0, 0, 1)] σ (fun rv σ2 => G 12 [some (2, 1, 0), some (2, 59, 0), some (0, 0, a2), none] (rv.toList ++ []) σ2))) : G 4 [some (2, 1, 0), some (2, 59, 0), some (0, 0, a2), none] [(0, 0, b0)] σ := fw_on hG [4, 12, 17, 47, 52] 200 h
theorem fs_seek59_17 {G : fw_K} {R : fw_KR} (hG : fw_cls st_seek59 R G) {a2 a3 : Int} {σ : ab_SG} (h : (fw_c a2 ≤ fw_c a3 → G 47 [some (2, 1, 0), some (2, 59, 0), some (0, 0, a2), some (0, 0, a3)] [] σ) ∧ (fw_c a3 < fw_c a2 → (fw_c ((5 : Nat) : Int) ≤ fw_c a3 → G 47 [some (2, 1, 0), some (2, 59, 0), some (0, 0, a2), some (0, 0, a3)] [] σ) ∧ (fw_c a3 < fw_c ((5 : Nat) : Int) → (0 ≤ fw_c a3 ∧ fw_c a3 < ((5 : Nat) : Int)) ∧ ((fw_d (σ 59 (fw_c a3).toNat) ≠ fw_d (σ 1 6) → G 17 [some (2, 1, 0), some (2, 59, 0), some (0, 0, a2), some (0, 0, a3 + 1)] [] σ) ∧ (fw_d (σ 59 (fw_c a3).toNat) = fw_d (σ 1 6) → R (some (0, 0, a3)) σ))))) : G 17 [some (2, 1, 0), some (2, 59, 0), some (0, 0, a2), some (0, 0, a3)] [] σ := fw_on hG [4, 12, 17, 47, 52] 200 h
theorem fs_seek59_12 {G : fw_K} {R : fw_KR} (hG : fw_cls st_seek59 R G) {a2 b0 : Int} {σ : ab_SG} (h : R (some (0, 0, (-1))) σ) : G 12 [some (2, 1, 0), some (2, 59, 0), some (0, 0, a2), none] [(0, 0, b0)] σ := fw_on hG [4, 12, 17, 47, 52] 200 h
theorem fs_seek59_47 {G : fw_K} {R : fw_KR} (hG : fw_cls st_seek59 R G) {a2 a3 : Int} {σ : ab_SG} (h : sp_refuse [(2, 1, 0), (0, 0, 3)] σ (fun rv σ2 => G 52 [some (2, 1, 0), some (2, 59, 0), some (0, 0, a2), some (0, 0, a3)] (rv.toList ++ []) σ2)) : G 47 [some (2, 1, 0), some (2, 59, 0), some (0, 0, a2), some (0, 0, a3)] [] σ := fw_on hG [4, 12, 17, 47, 52] 200 h
theorem fs_seek59_52 {G : fw_K} {R : fw_KR} (hG : fw_cls st_seek59 R G) {a2 a3 b0 : Int} {σ : ab_SG} (h : R (some (0, 0, (-1))) σ) : G 52 [some (2, 1, 0), some (2, 59, 0), some (0, 0, a2), some (0, 0, a3)] [(0, 0, b0)] σ := fw_on hG [4, 12, 17, 47, 52] 200 h
/-! rows read, written, filled, sought in: the proofs once for all rows, a row's own pieces are put in -/
theorem at_gen {k n : Nat} (hn : n ≤ 1000) {K : fw_KR} {σ : ab_SG} {x : Int} {P : Prop}
    (s0 : (fw_c x < 0 → K (some (0, 0, 0)) σ) ∧ (0 ≤ fw_c x → (fw_c ((n : Nat) : Int) ≤ fw_c x → K (some (0, 0, 0)) σ) ∧ (fw_c x < fw_c ((n : Nat) : Int) → (0 ≤ fw_c x ∧ fw_c x < ((n : Nat) : Int)) ∧ (K (some (0, 0, σ k (fw_c x).toNat)) σ))) → P)
    (h1 : 0 ≤ fw_c x ∧ fw_c x < (n : Int) → K (some (0, 0, σ k (fw_c x).toNat)) σ) (h2 : ¬ (0 ≤ fw_c x ∧ fw_c x < (n : Int)) → K (some (0, 0, 0)) σ) : P := by
  have en : fw_c ((n : Nat) : Int) = ((n : Nat) : Int) := fw_c_id (by omega) (by omega)
  rw [en] at s0
  exact s0 ⟨fun q => h2 (by omega), fun q => ⟨fun q2 => h2 (by omega), fun q2 => ⟨⟨q, q2⟩, h1 ⟨q, q2⟩⟩⟩⟩
theorem put_gen {k n : Nat} (hn : n ≤ 1000) {K : fw_KR} {σ : ab_SG} {x c : Int} {P : Prop}
    (s0 : (fw_c x < 0 → K none σ) ∧ (0 ≤ fw_c x → (fw_c ((n : Nat) : Int) ≤ fw_c x → K none σ) ∧ (fw_c x < fw_c ((n : Nat) : Int) → (0 ≤ fw_c x ∧ fw_c x < ((n : Nat) : Int)) ∧ True ∧ (K none (ab_ups σ k (fw_c x).toNat c)))) → P)
    (h1 : 0 ≤ fw_c x ∧ fw_c x < (n : Int) → K none (ab_ups σ k (fw_c x).toNat c)) (h2 : ¬ (0 ≤ fw_c x ∧ fw_c x < (n : Int)) → K none σ) : P := by
  have en : fw_c ((n : Nat) : Int) = ((n : Nat) : Int) := fw_c_id (by omega) (by omega)
  rw [en] at s0
  exact s0 ⟨fun q => h2 (by omega), fun q => ⟨fun q2 => h2 (by omega), fun q2 => ⟨⟨q, q2⟩, trivial, h1 ⟨q, q2⟩⟩⟩⟩
theorem fill_gen {k n : Nat} (hn : n ≤ 1000) {K : fw_KR} {σ : ab_SG} {v : Int} {G2 : Int → ab_SG → Prop}
    (s2 : ∀ (a2 : Int) (σ1 : ab_SG), (fw_c ((n : Nat) : Int) ≤ fw_c a2 → K none σ1) ∧ (fw_c a2 < fw_c ((n : Nat) : Int) → (0 ≤ fw_c a2 ∧ fw_c a2 < ((n : Nat) : Int)) ∧ True ∧ (G2 (a2 + 1) (ab_ups σ1 k (fw_c a2).toNat (fw_c v)))) → G2 a2 σ1)
    (h : ∀ σ' : ab_SG, (∀ a b : Nat, ¬ (a = k ∧ b < n) → σ' a b = σ a b) → (∀ b : Nat, b < n → σ' k b = fw_c v) → K none σ') : G2 0 σ := by
  have en : fw_c ((n : Nat) : Int) = ((n : Nat) : Int) := fw_c_id (by omega) (by omega)
  have key : ∀ (f i : Nat) (σ1 : ab_SG), i + f = n → (∀ a b : Nat, ¬ (a = k ∧ b < i) → σ1 a b = σ a b) → (∀ b : Nat, b < i → σ1 k b = fw_c v) → G2 (i : Int) σ1 := by
    intro f
    induction f with
    | zero =>
      intro i σ1 hi q1 q2
      have e : i = n := by omega
      subst e
      refine s2 _ _ ?_
      exact ⟨fun _ => h σ1 q1 q2, fun q => absurd q (Int.lt_irrefl _)⟩
    | succ f ih =>
      intro i σ1 hi q1 q2
      have ei : fw_c (i : Int) = i := fw_c_id (by omega) (by omega)
      refine s2 _ _ ?_
      rw [en, ei, Int.toNat_natCast]
      refine ⟨fun q => absurd q (by omega), fun q => ⟨⟨Int.natCast_nonneg i, q⟩, trivial, ?_⟩⟩
      refine ih (i + 1) _ (by omega) (fun a b hab => ?_) (fun b hb => ?_)
      · rw [ab_ups_ne (fun z => hab ⟨z.1, by omega⟩)]
        exact q1 a b (fun z => hab ⟨z.1, by omega⟩)
      · by_cases e : b = i
        · rw [e, ab_ups_eq]
        · rw [ab_ups_ne (fun z => e z.2)]
          exact q2 b (by omega)
  exact key n 0 σ (by omega) (fun _ _ _ => rfl) (fun b hb => absurd hb (Nat.not_lt_zero b))
theorem isIn_gen {k n : Nat} (hn : n ≤ 1000) {K : fw_KR} {σ : ab_SG} {x : Int} {G2 : Int → Prop}
    (s2 : ∀ a3 : Int, (fw_c x ≤ fw_c a3 → (0 ≤ fw_c 0 ∧ fw_c 0 ≤ 1) ∧ K (some (0, 0, 0)) σ) ∧ (fw_c a3 < fw_c x → (fw_c ((n : Nat) : Int) ≤ fw_c a3 → (0 ≤ fw_c 0 ∧ fw_c 0 ≤ 1) ∧ K (some (0, 0, 0)) σ) ∧ (fw_c a3 < fw_c ((n : Nat) : Int) → (0 ≤ fw_c a3 ∧ fw_c a3 < ((n : Nat) : Int)) ∧ ((fw_d (σ k (fw_c a3).toNat) ≠ fw_d (σ 1 6) → G2 (a3 + 1)) ∧ (fw_d (σ k (fw_c a3).toNat) = fw_d (σ 1 6) → (0 ≤ fw_c 1 ∧ fw_c 1 ≤ 1) ∧ K (some (0, 0, 1)) σ)))) → G2 a3)
    (hx : 0 ≤ x ∧ x ≤ (n : Int)) (hd : ∀ j : Nat, (j : Int) < x → fw_d (σ k j) = σ k j) (hw : fw_d (σ 1 6) = σ 1 6) (h : K (some (0, 0, fw_bo (0 ≤ rw_fd (σ k) (σ 1 6) x.toNat 0))) σ) : G2 0 := by
  have en : fw_c ((n : Nat) : Int) = ((n : Nat) : Int) := fw_c_id (by omega) (by omega)
  have ex : fw_c x = x := fw_c_id (by omega) (by omega)
  have key : ∀ (f i : Nat), i + f = x.toNat → K (some (0, 0, fw_bo (0 ≤ rw_fd (σ k) (σ 1 6) f i))) σ → G2 (i : Int) := by
    intro f
    induction f with
    | zero =>
      intro i hi q
      have ei : fw_c (i : Int) = i := fw_c_id (by omega) (by omega)
      refine s2 _ ?_
      rw [en, ei, ex]
      rw [fw_bo_f (by show ¬ (0 : Int) ≤ -1; decide)] at q
      exact ⟨fun _ => ⟨fw_01, q⟩, fun z => absurd z (by omega)⟩
    | succ f ih =>
      intro i hi q
      have ei : fw_c (i : Int) = i := fw_c_id (by omega) (by omega)
      refine s2 _ ?_
      rw [en, ei, ex, Int.toNat_natCast, hw, hd i (by omega)]
      refine ⟨fun z => absurd z (by omega), fun _ => ⟨fun z => absurd z (by omega), fun z => ⟨⟨Int.natCast_nonneg i, z⟩, fun z2 => ?_, fun z2 => ⟨fw_11, ?_⟩⟩⟩⟩
      · refine ih (i + 1) (by omega) ?_
        replace q : K (some (0, 0, fw_bo (0 ≤ (if σ k i = σ 1 6 then (i : Int) else rw_fd (σ k) (σ 1 6) f (i + 1))))) σ := q
        rw [if_neg z2] at q
        exact q
      · replace q : K (some (0, 0, fw_bo (0 ≤ (if σ k i = σ 1 6 then (i : Int) else rw_fd (σ k) (σ 1 6) f (i + 1))))) σ := q
        rw [if_pos z2, fw_bo_t (Int.natCast_nonneg i)] at q
        exact q
  exact key x.toNat 0 (by omega) h
theorem seek_gen {k n : Nat} (hn : n ≤ 1000) {K : fw_KR} {σ : ab_SG} {x : Int} {G2 G4 : Int → Prop}
    (s2 : ∀ a3 : Int, (fw_c x ≤ fw_c a3 → G4 a3) ∧ (fw_c a3 < fw_c x → (fw_c ((n : Nat) : Int) ≤ fw_c a3 → G4 a3) ∧ (fw_c a3 < fw_c ((n : Nat) : Int) → (0 ≤ fw_c a3 ∧ fw_c a3 < ((n : Nat) : Int)) ∧ ((fw_d (σ k (fw_c a3).toNat) ≠ fw_d (σ 1 6) → G2 (a3 + 1)) ∧ (fw_d (σ k (fw_c a3).toNat) = fw_d (σ 1 6) → K (some (0, 0, a3)) σ)))) → G2 a3)
    (hx : 0 ≤ x ∧ x ≤ (n : Int)) (hd : ∀ j : Nat, (j : Int) < x → fw_d (σ k j) = σ k j) (hw : fw_d (σ 1 6) = σ 1 6)
    (h2 : rw_fd (σ k) (σ 1 6) x.toNat 0 < 0 → ∀ i : Int, G4 i) (h3 : 0 ≤ rw_fd (σ k) (σ 1 6) x.toNat 0 → K (some (0, 0, rw_fd (σ k) (σ 1 6) x.toNat 0)) σ) : G2 0 := by
  have en : fw_c ((n : Nat) : Int) = ((n : Nat) : Int) := fw_c_id (by omega) (by omega)
  have ex : fw_c x = x := fw_c_id (by omega) (by omega)
  have key : ∀ (f i : Nat), i + f = x.toNat → rw_fd (σ k) (σ 1 6) x.toNat 0 = rw_fd (σ k) (σ 1 6) f i → G2 (i : Int) := by
    intro f
    induction f with
    | zero =>
      intro i hi q
      have ei : fw_c (i : Int) = i := fw_c_id (by omega) (by omega)
      refine s2 _ ?_
      rw [en, ei, ex]
      exact ⟨fun _ => h2 (by rw [q]; show (-1 : Int) < 0; decide) _, fun z => absurd z (by omega)⟩
    | succ f ih =>
      intro i hi q
      have ei : fw_c (i : Int) = i := fw_c_id (by omega) (by omega)
      replace q : rw_fd (σ k) (σ 1 6) x.toNat 0 = (if σ k i = σ 1 6 then (i : Int) else rw_fd (σ k) (σ 1 6) f (i + 1)) := q
      refine s2 _ ?_
      rw [en, ei, ex, Int.toNat_natCast, hw, hd i (by omega)]
      refine ⟨fun z => absurd z (by omega), fun _ => ⟨fun z => absurd z (by omega), fun z => ⟨⟨Int.natCast_nonneg i, z⟩, fun z2 => ?_, fun z2 => ?_⟩⟩⟩
      · rw [if_neg z2] at q
        exact ih (i + 1) (by omega) q
      · rw [if_pos z2] at q
        have h3 := h3 (by rw [q]; exact Int.natCast_nonneg i)
        rw [q] at h3
        exact h3
  exact key x.toNat 0 (by omega) rfl
section
variable {l : Launch} {cy : Nat → ClassId} {ad wr cr : Nat → Nat} {D : va_G}
theorem fm_at50 (hinj : nn_inj ad) : fw_H l cy ad wr cr D 29 0 (at_k 50 81) := fw_mk hinj (⟨"NameNotes", "at", "([II)I"⟩, prog_1_method_84_code, 2, (Option.some Jvm.ClassFile.FieldType.int), 2, false, 0) rfl rfl nn_KI1_ok nn_KJ1_ok nn_PF1_ok nn_PS1_ok (by decide +kernel) rfl rfl (fun _ h => absurd h List.not_mem_nil) (fun as σ K h => by
  obtain ⟨x, rfl, h1, h2⟩ := h
  exact ⟨rfl, fun G hG => at_gen (k := 50) (n := 81) (K := K) (σ := σ) (x := x) (by decide) (fs_at50_0 hG) h1 h2⟩)
theorem fm_put50 (hinj : nn_inj ad) : fw_H l cy ad wr cr D 27 0 (put_k 50 81) := fw_mk hinj (⟨"NameNotes", "put", "([III)V"⟩, prog_1_method_86_code, 3, (Option.none : Option Jvm.ClassFile.FieldType), 3, false, 4) rfl rfl nn_KI1_ok nn_KJ1_ok nn_PF1_ok nn_PS1_ok (by decide +kernel) rfl rfl (fun _ h => absurd h List.not_mem_nil) (fun as σ K h => by
  obtain ⟨x, v, rfl, h1, h2⟩ := h
  exact ⟨rfl, fun G hG => put_gen (k := 50) (n := 81) (K := K) (σ := σ) (x := x) (c := fw_c v) (by decide) (fs_put50_0 hG) h1 h2⟩)
theorem fm_fill50 (hinj : nn_inj ad) : fw_H l cy ad wr cr D 7 0 (fill_k 50 81) := fw_mk hinj (⟨"NameNotes", "fillRow", "([II)V"⟩, prog_1_method_90_code, 3, (Option.none : Option Jvm.ClassFile.FieldType), 2, false, 4) rfl rfl nn_KI1_ok nn_KJ1_ok nn_PF1_ok nn_PS1_ok (by decide +kernel) rfl rfl (fun _ h => absurd h List.not_mem_nil) (fun as σ K h => by
  obtain ⟨v, rfl, h⟩ := h
  exact ⟨rfl, fun G hG => fs_fill50_0 hG (fill_gen (k := 50) (n := 81) (K := K) (σ := σ) (v := v) (G2 := fun i σ1 => G 2 [some (2, 50, 0), some (0, 0, v), some (0, 0, i)] [] σ1) (by decide) (fun a2 σ1 q => fs_fill50_2 hG q) h)⟩)
theorem fm_at51 (hinj : nn_inj ad) : fw_H l cy ad wr cr D 29 0 (at_k 51 81) := fw_mk hinj (⟨"NameNotes", "at", "([II)I"⟩, prog_1_method_84_code, 2, (Option.some Jvm.ClassFile.FieldType.int), 2, false, 0) rfl rfl nn_KI1_ok nn_KJ1_ok nn_PF1_ok nn_PS1_ok (by decide +kernel) rfl rfl (fun _ h => absurd h List.not_mem_nil) (fun as σ K h => by
  obtain ⟨x, rfl, h1, h2⟩ := h
  exact ⟨rfl, fun G hG => at_gen (k := 51) (n := 81) (K := K) (σ := σ) (x := x) (by decide) (fs_at51_0 hG) h1 h2⟩)
theorem fm_put51 (hinj : nn_inj ad) : fw_H l cy ad wr cr D 27 0 (put_k 51 81) := fw_mk hinj (⟨"NameNotes", "put", "([III)V"⟩, prog_1_method_86_code, 3, (Option.none : Option Jvm.ClassFile.FieldType), 3, false, 4) rfl rfl nn_KI1_ok nn_KJ1_ok nn_PF1_ok nn_PS1_ok (by decide +kernel) rfl rfl (fun _ h => absurd h List.not_mem_nil) (fun as σ K h => by
  obtain ⟨x, v, rfl, h1, h2⟩ := h
  exact ⟨rfl, fun G hG => put_gen (k := 51) (n := 81) (K := K) (σ := σ) (x := x) (c := fw_c v) (by decide) (fs_put51_0 hG) h1 h2⟩)
theorem fm_fill51 (hinj : nn_inj ad) : fw_H l cy ad wr cr D 7 0 (fill_k 51 81) := fw_mk hinj (⟨"NameNotes", "fillRow", "([II)V"⟩, prog_1_method_90_code, 3, (Option.none : Option Jvm.ClassFile.FieldType), 2, false, 4) rfl rfl nn_KI1_ok nn_KJ1_ok nn_PF1_ok nn_PS1_ok (by decide +kernel) rfl rfl (fun _ h => absurd h List.not_mem_nil) (fun as σ K h => by
  obtain ⟨v, rfl, h⟩ := h
  exact ⟨rfl, fun G hG => fs_fill51_0 hG (fill_gen (k := 51) (n := 81) (K := K) (σ := σ) (v := v) (G2 := fun i σ1 => G 2 [some (2, 51, 0), some (0, 0, v), some (0, 0, i)] [] σ1) (by decide) (fun a2 σ1 q => fs_fill51_2 hG q) h)⟩)
theorem fm_at52 (hinj : nn_inj ad) : fw_H l cy ad wr cr D 29 0 (at_k 52 9) := fw_mk hinj (⟨"NameNotes", "at", "([II)I"⟩, prog_1_method_84_code, 2, (Option.some Jvm.ClassFile.FieldType.int), 2, false, 0) rfl rfl nn_KI1_ok nn_KJ1_ok nn_PF1_ok nn_PS1_ok (by decide +kernel) rfl rfl (fun _ h => absurd h List.not_mem_nil) (fun as σ K h => by
  obtain ⟨x, rfl, h1, h2⟩ := h
  exact ⟨rfl, fun G hG => at_gen (k := 52) (n := 9) (K := K) (σ := σ) (x := x) (by decide) (fs_at52_0 hG) h1 h2⟩)
theorem fm_put52 (hinj : nn_inj ad) : fw_H l cy ad wr cr D 27 0 (put_k 52 9) := fw_mk hinj (⟨"NameNotes", "put", "([III)V"⟩, prog_1_method_86_code, 3, (Option.none : Option Jvm.ClassFile.FieldType), 3, false, 4) rfl rfl nn_KI1_ok nn_KJ1_ok nn_PF1_ok nn_PS1_ok (by decide +kernel) rfl rfl (fun _ h => absurd h List.not_mem_nil) (fun as σ K h => by
  obtain ⟨x, v, rfl, h1, h2⟩ := h
  exact ⟨rfl, fun G hG => put_gen (k := 52) (n := 9) (K := K) (σ := σ) (x := x) (c := fw_c v) (by decide) (fs_put52_0 hG) h1 h2⟩)
theorem fm_fill52 (hinj : nn_inj ad) : fw_H l cy ad wr cr D 7 0 (fill_k 52 9) := fw_mk hinj (⟨"NameNotes", "fillRow", "([II)V"⟩, prog_1_method_90_code, 3, (Option.none : Option Jvm.ClassFile.FieldType), 2, false, 4) rfl rfl nn_KI1_ok nn_KJ1_ok nn_PF1_ok nn_PS1_ok (by decide +kernel) rfl rfl (fun _ h => absurd h List.not_mem_nil) (fun as σ K h => by
  obtain ⟨v, rfl, h⟩ := h
  exact ⟨rfl, fun G hG => fs_fill52_0 hG (fill_gen (k := 52) (n := 9) (K := K) (σ := σ) (v := v) (G2 := fun i σ1 => G 2 [some (2, 52, 0), some (0, 0, v), some (0, 0, i)] [] σ1) (by decide) (fun a2 σ1 q => fs_fill52_2 hG q) h)⟩)
theorem fm_at54 (hinj : nn_inj ad) : fw_H l cy ad wr cr D 29 0 (at_k 54 6) := fw_mk hinj (⟨"NameNotes", "at", "([II)I"⟩, prog_1_method_84_code, 2, (Option.some Jvm.ClassFile.FieldType.int), 2, false, 0) rfl rfl nn_KI1_ok nn_KJ1_ok nn_PF1_ok nn_PS1_ok (by decide +kernel) rfl rfl (fun _ h => absurd h List.not_mem_nil) (fun as σ K h => by
  obtain ⟨x, rfl, h1, h2⟩ := h
  exact ⟨rfl, fun G hG => at_gen (k := 54) (n := 6) (K := K) (σ := σ) (x := x) (by decide) (fs_at54_0 hG) h1 h2⟩)
theorem fm_put54 (hinj : nn_inj ad) : fw_H l cy ad wr cr D 27 0 (put_k 54 6) := fw_mk hinj (⟨"NameNotes", "put", "([III)V"⟩, prog_1_method_86_code, 3, (Option.none : Option Jvm.ClassFile.FieldType), 3, false, 4) rfl rfl nn_KI1_ok nn_KJ1_ok nn_PF1_ok nn_PS1_ok (by decide +kernel) rfl rfl (fun _ h => absurd h List.not_mem_nil) (fun as σ K h => by
  obtain ⟨x, v, rfl, h1, h2⟩ := h
  exact ⟨rfl, fun G hG => put_gen (k := 54) (n := 6) (K := K) (σ := σ) (x := x) (c := fw_c v) (by decide) (fs_put54_0 hG) h1 h2⟩)
theorem fm_fill54 (hinj : nn_inj ad) : fw_H l cy ad wr cr D 7 0 (fill_k 54 6) := fw_mk hinj (⟨"NameNotes", "fillRow", "([II)V"⟩, prog_1_method_90_code, 3, (Option.none : Option Jvm.ClassFile.FieldType), 2, false, 4) rfl rfl nn_KI1_ok nn_KJ1_ok nn_PF1_ok nn_PS1_ok (by decide +kernel) rfl rfl (fun _ h => absurd h List.not_mem_nil) (fun as σ K h => by
  obtain ⟨v, rfl, h⟩ := h
  exact ⟨rfl, fun G hG => fs_fill54_0 hG (fill_gen (k := 54) (n := 6) (K := K) (σ := σ) (v := v) (G2 := fun i σ1 => G 2 [some (2, 54, 0), some (0, 0, v), some (0, 0, i)] [] σ1) (by decide) (fun a2 σ1 q => fs_fill54_2 hG q) h)⟩)
theorem fm_at55 (hinj : nn_inj ad) : fw_H l cy ad wr cr D 29 0 (at_k 55 45) := fw_mk hinj (⟨"NameNotes", "at", "([II)I"⟩, prog_1_method_84_code, 2, (Option.some Jvm.ClassFile.FieldType.int), 2, false, 0) rfl rfl nn_KI1_ok nn_KJ1_ok nn_PF1_ok nn_PS1_ok (by decide +kernel) rfl rfl (fun _ h => absurd h List.not_mem_nil) (fun as σ K h => by
  obtain ⟨x, rfl, h1, h2⟩ := h
  exact ⟨rfl, fun G hG => at_gen (k := 55) (n := 45) (K := K) (σ := σ) (x := x) (by decide) (fs_at55_0 hG) h1 h2⟩)
theorem fm_put55 (hinj : nn_inj ad) : fw_H l cy ad wr cr D 27 0 (put_k 55 45) := fw_mk hinj (⟨"NameNotes", "put", "([III)V"⟩, prog_1_method_86_code, 3, (Option.none : Option Jvm.ClassFile.FieldType), 3, false, 4) rfl rfl nn_KI1_ok nn_KJ1_ok nn_PF1_ok nn_PS1_ok (by decide +kernel) rfl rfl (fun _ h => absurd h List.not_mem_nil) (fun as σ K h => by
  obtain ⟨x, v, rfl, h1, h2⟩ := h
  exact ⟨rfl, fun G hG => put_gen (k := 55) (n := 45) (K := K) (σ := σ) (x := x) (c := fw_c v) (by decide) (fs_put55_0 hG) h1 h2⟩)
theorem fm_fill55 (hinj : nn_inj ad) : fw_H l cy ad wr cr D 7 0 (fill_k 55 45) := fw_mk hinj (⟨"NameNotes", "fillRow", "([II)V"⟩, prog_1_method_90_code, 3, (Option.none : Option Jvm.ClassFile.FieldType), 2, false, 4) rfl rfl nn_KI1_ok nn_KJ1_ok nn_PF1_ok nn_PS1_ok (by decide +kernel) rfl rfl (fun _ h => absurd h List.not_mem_nil) (fun as σ K h => by
  obtain ⟨v, rfl, h⟩ := h
  exact ⟨rfl, fun G hG => fs_fill55_0 hG (fill_gen (k := 55) (n := 45) (K := K) (σ := σ) (v := v) (G2 := fun i σ1 => G 2 [some (2, 55, 0), some (0, 0, v), some (0, 0, i)] [] σ1) (by decide) (fun a2 σ1 q => fs_fill55_2 hG q) h)⟩)
theorem fm_at56 (hinj : nn_inj ad) : fw_H l cy ad wr cr D 29 0 (at_k 56 5) := fw_mk hinj (⟨"NameNotes", "at", "([II)I"⟩, prog_1_method_84_code, 2, (Option.some Jvm.ClassFile.FieldType.int), 2, false, 0) rfl rfl nn_KI1_ok nn_KJ1_ok nn_PF1_ok nn_PS1_ok (by decide +kernel) rfl rfl (fun _ h => absurd h List.not_mem_nil) (fun as σ K h => by
  obtain ⟨x, rfl, h1, h2⟩ := h
  exact ⟨rfl, fun G hG => at_gen (k := 56) (n := 5) (K := K) (σ := σ) (x := x) (by decide) (fs_at56_0 hG) h1 h2⟩)
theorem fm_put56 (hinj : nn_inj ad) : fw_H l cy ad wr cr D 27 0 (put_k 56 5) := fw_mk hinj (⟨"NameNotes", "put", "([III)V"⟩, prog_1_method_86_code, 3, (Option.none : Option Jvm.ClassFile.FieldType), 3, false, 4) rfl rfl nn_KI1_ok nn_KJ1_ok nn_PF1_ok nn_PS1_ok (by decide +kernel) rfl rfl (fun _ h => absurd h List.not_mem_nil) (fun as σ K h => by
  obtain ⟨x, v, rfl, h1, h2⟩ := h
  exact ⟨rfl, fun G hG => put_gen (k := 56) (n := 5) (K := K) (σ := σ) (x := x) (c := fw_c v) (by decide) (fs_put56_0 hG) h1 h2⟩)
theorem fm_fill56 (hinj : nn_inj ad) : fw_H l cy ad wr cr D 7 0 (fill_k 56 5) := fw_mk hinj (⟨"NameNotes", "fillRow", "([II)V"⟩, prog_1_method_90_code, 3, (Option.none : Option Jvm.ClassFile.FieldType), 2, false, 4) rfl rfl nn_KI1_ok nn_KJ1_ok nn_PF1_ok nn_PS1_ok (by decide +kernel) rfl rfl (fun _ h => absurd h List.not_mem_nil) (fun as σ K h => by
  obtain ⟨v, rfl, h⟩ := h
  exact ⟨rfl, fun G hG => fs_fill56_0 hG (fill_gen (k := 56) (n := 5) (K := K) (σ := σ) (v := v) (G2 := fun i σ1 => G 2 [some (2, 56, 0), some (0, 0, v), some (0, 0, i)] [] σ1) (by decide) (fun a2 σ1 q => fs_fill56_2 hG q) h)⟩)
theorem fm_at64 (hinj : nn_inj ad) : fw_H l cy ad wr cr D 29 0 (at_k 64 5) := fw_mk hinj (⟨"NameNotes", "at", "([II)I"⟩, prog_1_method_84_code, 2, (Option.some Jvm.ClassFile.FieldType.int), 2, false, 0) rfl rfl nn_KI1_ok nn_KJ1_ok nn_PF1_ok nn_PS1_ok (by decide +kernel) rfl rfl (fun _ h => absurd h List.not_mem_nil) (fun as σ K h => by
  obtain ⟨x, rfl, h1, h2⟩ := h
  exact ⟨rfl, fun G hG => at_gen (k := 64) (n := 5) (K := K) (σ := σ) (x := x) (by decide) (fs_at64_0 hG) h1 h2⟩)
theorem fm_put64 (hinj : nn_inj ad) : fw_H l cy ad wr cr D 27 0 (put_k 64 5) := fw_mk hinj (⟨"NameNotes", "put", "([III)V"⟩, prog_1_method_86_code, 3, (Option.none : Option Jvm.ClassFile.FieldType), 3, false, 4) rfl rfl nn_KI1_ok nn_KJ1_ok nn_PF1_ok nn_PS1_ok (by decide +kernel) rfl rfl (fun _ h => absurd h List.not_mem_nil) (fun as σ K h => by
  obtain ⟨x, v, rfl, h1, h2⟩ := h
  exact ⟨rfl, fun G hG => put_gen (k := 64) (n := 5) (K := K) (σ := σ) (x := x) (c := fw_c v) (by decide) (fs_put64_0 hG) h1 h2⟩)
theorem fm_fill64 (hinj : nn_inj ad) : fw_H l cy ad wr cr D 7 0 (fill_k 64 5) := fw_mk hinj (⟨"NameNotes", "fillRow", "([II)V"⟩, prog_1_method_90_code, 3, (Option.none : Option Jvm.ClassFile.FieldType), 2, false, 4) rfl rfl nn_KI1_ok nn_KJ1_ok nn_PF1_ok nn_PS1_ok (by decide +kernel) rfl rfl (fun _ h => absurd h List.not_mem_nil) (fun as σ K h => by
  obtain ⟨v, rfl, h⟩ := h
  exact ⟨rfl, fun G hG => fs_fill64_0 hG (fill_gen (k := 64) (n := 5) (K := K) (σ := σ) (v := v) (G2 := fun i σ1 => G 2 [some (2, 64, 0), some (0, 0, v), some (0, 0, i)] [] σ1) (by decide) (fun a2 σ1 q => fs_fill64_2 hG q) h)⟩)
theorem fm_at53 (hinj : nn_inj ad) : fw_H l cy ad wr cr D 29 0 (at_k 53 324) := fw_mk hinj (⟨"NameNotes", "at", "([II)I"⟩, prog_1_method_84_code, 2, (Option.some Jvm.ClassFile.FieldType.int), 2, false, 0) rfl rfl nn_KI1_ok nn_KJ1_ok nn_PF1_ok nn_PS1_ok (by decide +kernel) rfl rfl (fun _ h => absurd h List.not_mem_nil) (fun as σ K h => by
  obtain ⟨x, rfl, h1, h2⟩ := h
  exact ⟨rfl, fun G hG => at_gen (k := 53) (n := 324) (K := K) (σ := σ) (x := x) (by decide) (fs_at53_0 hG) h1 h2⟩)
theorem fm_put53 (hinj : nn_inj ad) : fw_H l cy ad wr cr D 27 0 (put_k 53 324) := fw_mk hinj (⟨"NameNotes", "put", "([III)V"⟩, prog_1_method_86_code, 3, (Option.none : Option Jvm.ClassFile.FieldType), 3, false, 4) rfl rfl nn_KI1_ok nn_KJ1_ok nn_PF1_ok nn_PS1_ok (by decide +kernel) rfl rfl (fun _ h => absurd h List.not_mem_nil) (fun as σ K h => by
  obtain ⟨x, v, rfl, h1, h2⟩ := h
  exact ⟨rfl, fun G hG => put_gen (k := 53) (n := 324) (K := K) (σ := σ) (x := x) (c := fw_c v) (by decide) (fs_put53_0 hG) h1 h2⟩)
theorem fm_fill53 (hinj : nn_inj ad) : fw_H l cy ad wr cr D 7 0 (fill_k 53 324) := fw_mk hinj (⟨"NameNotes", "fillRow", "([II)V"⟩, prog_1_method_90_code, 3, (Option.none : Option Jvm.ClassFile.FieldType), 2, false, 4) rfl rfl nn_KI1_ok nn_KJ1_ok nn_PF1_ok nn_PS1_ok (by decide +kernel) rfl rfl (fun _ h => absurd h List.not_mem_nil) (fun as σ K h => by
  obtain ⟨v, rfl, h⟩ := h
  exact ⟨rfl, fun G hG => fs_fill53_0 hG (fill_gen (k := 53) (n := 324) (K := K) (σ := σ) (v := v) (G2 := fun i σ1 => G 2 [some (2, 53, 0), some (0, 0, v), some (0, 0, i)] [] σ1) (by decide) (fun a2 σ1 q => fs_fill53_2 hG q) h)⟩)
theorem fm_putl57 (hinj : nn_inj ad) : fw_H l cy ad wr cr D 26 0 (putl_k 57 9) := fw_mk hinj (⟨"NameNotes", "put", "([JIJ)V"⟩, prog_1_method_87_code, 4, (Option.none : Option Jvm.ClassFile.FieldType), 3, false, 4) rfl rfl nn_KI1_ok nn_KJ1_ok nn_PF1_ok nn_PS1_ok (by decide +kernel) rfl rfl (fun _ h => absurd h List.not_mem_nil) (fun as σ K h => by
  obtain ⟨x, v, rfl, h1, h2⟩ := h
  exact ⟨rfl, fun G hG => put_gen (k := 57) (n := 9) (K := K) (σ := σ) (x := x) (c := fw_d v) (by decide) (fs_putl57_0 hG) h1 h2⟩)
theorem fm_isIn57 (hinj : nn_inj ad) : fw_H l cy ad wr cr D 25 0 (isIn_k 57 9) := fw_mk hinj (⟨"NameNotes$StudioReader", "isIn", "([JI)Z"⟩, prog_9_method_13_code, 4, (Option.some Jvm.ClassFile.FieldType.boolean), 2, true, 1) rfl rfl nn_KI3_ok nn_KJ3_ok nn_PF3_ok nn_PS3_ok (by decide +kernel) rfl rfl (fun _ h => absurd h List.not_mem_nil) (fun as σ K h => by
  obtain ⟨x, rfl, hx, hd, hw, h⟩ := h
  exact ⟨rfl, fun G hG => fs_isIn57_0 hG (isIn_gen (k := 57) (n := 9) (K := K) (σ := σ) (x := x) (G2 := fun i => G 2 [some (2, 48, 0), some (2, 57, 0), some (0, 0, x), some (0, 0, i)] [] σ) (by decide) (fun a3 q => fs_isIn57_2 hG q) hx hd hw h)⟩)
theorem fm_seek57 (hinj : nn_inj ad) : fw_H l cy ad wr cr D 33 1 (seek_k 57 9) := fw_mk hinj (⟨"NameNotes$Tape", "seek", "([JI)I"⟩, prog_10_method_11_code, 4, (Option.some Jvm.ClassFile.FieldType.int), 2, true, 0) rfl rfl nn_KI2_ok nn_KJ2_ok nn_PF2_ok nn_PS2_ok (by decide +kernel) rfl rfl (List.forall_mem_cons.mpr ⟨fw_row nn_PM2_ok (x := 87) (k := 0) (mn := 24) (np := 0) (ob := true) (ci := 8) (⟨"NameNotes$Tape", "isName", "()Z"⟩, prog_10_method_9_code, 1, (Option.some Jvm.ClassFile.FieldType.boolean), 0, true, 1) rfl (by decide +kernel) rfl rfl (by decide) (fun _ => ⟨_, _, rfl⟩) (fm_isName hinj), (List.forall_mem_cons.mpr ⟨fw_row nn_PM2_ok (x := 91) (k := 0) (mn := 22) (np := 1) (ob := true) (ci := 8) (⟨"NameNotes$Tape", "refuse", "(I)Z"⟩, prog_10_method_14_code, 2, (Option.some Jvm.ClassFile.FieldType.boolean), 1, true, 1) rfl (by decide +kernel) rfl rfl (by decide) (fun _ => ⟨_, _, rfl⟩) (fm_refuse hinj), (fun _ h => absurd h List.not_mem_nil)⟩)⟩) (fun as σ K h => by
  obtain ⟨x, rfl, hx, hd, hw, h1, h2, h3⟩ := h
  refine ⟨rfl, fun G hG => fs_seek57_0 hG ⟨rfl, ?_⟩⟩
  refine fs_seek57_4 hG ⟨fun z => ?_, fun z => ⟨_, rfl, fs_seek57_12 hG (h1 (fw_bo_eq z))⟩⟩
  have hn := fw_bo_ne z
  exact seek_gen (k := 57) (n := 9) (K := K) (σ := σ) (x := x) (G2 := fun i => G 17 [some (2, 1, 0), some (2, 57, 0), some (0, 0, x), some (0, 0, i)] [] σ) (G4 := fun i => G 47 [some (2, 1, 0), some (2, 57, 0), some (0, 0, x), some (0, 0, i)] [] σ) (by decide) (fun a3 q => fs_seek57_17 hG q) hx hd (hw hn) (fun q i => fs_seek57_47 hG ⟨_, rfl, fs_seek57_52 hG (h2 hn q)⟩) (h3 hn))
theorem fm_putl58 (hinj : nn_inj ad) : fw_H l cy ad wr cr D 26 0 (putl_k 58 6) := fw_mk hinj (⟨"NameNotes", "put", "([JIJ)V"⟩, prog_1_method_87_code, 4, (Option.none : Option Jvm.ClassFile.FieldType), 3, false, 4) rfl rfl nn_KI1_ok nn_KJ1_ok nn_PF1_ok nn_PS1_ok (by decide +kernel) rfl rfl (fun _ h => absurd h List.not_mem_nil) (fun as σ K h => by
  obtain ⟨x, v, rfl, h1, h2⟩ := h
  exact ⟨rfl, fun G hG => put_gen (k := 58) (n := 6) (K := K) (σ := σ) (x := x) (c := fw_d v) (by decide) (fs_putl58_0 hG) h1 h2⟩)
theorem fm_isIn58 (hinj : nn_inj ad) : fw_H l cy ad wr cr D 25 0 (isIn_k 58 6) := fw_mk hinj (⟨"NameNotes$StudioReader", "isIn", "([JI)Z"⟩, prog_9_method_13_code, 4, (Option.some Jvm.ClassFile.FieldType.boolean), 2, true, 1) rfl rfl nn_KI3_ok nn_KJ3_ok nn_PF3_ok nn_PS3_ok (by decide +kernel) rfl rfl (fun _ h => absurd h List.not_mem_nil) (fun as σ K h => by
  obtain ⟨x, rfl, hx, hd, hw, h⟩ := h
  exact ⟨rfl, fun G hG => fs_isIn58_0 hG (isIn_gen (k := 58) (n := 6) (K := K) (σ := σ) (x := x) (G2 := fun i => G 2 [some (2, 48, 0), some (2, 58, 0), some (0, 0, x), some (0, 0, i)] [] σ) (by decide) (fun a3 q => fs_isIn58_2 hG q) hx hd hw h)⟩)
theorem fm_seek58 (hinj : nn_inj ad) : fw_H l cy ad wr cr D 33 1 (seek_k 58 6) := fw_mk hinj (⟨"NameNotes$Tape", "seek", "([JI)I"⟩, prog_10_method_11_code, 4, (Option.some Jvm.ClassFile.FieldType.int), 2, true, 0) rfl rfl nn_KI2_ok nn_KJ2_ok nn_PF2_ok nn_PS2_ok (by decide +kernel) rfl rfl (List.forall_mem_cons.mpr ⟨fw_row nn_PM2_ok (x := 87) (k := 0) (mn := 24) (np := 0) (ob := true) (ci := 8) (⟨"NameNotes$Tape", "isName", "()Z"⟩, prog_10_method_9_code, 1, (Option.some Jvm.ClassFile.FieldType.boolean), 0, true, 1) rfl (by decide +kernel) rfl rfl (by decide) (fun _ => ⟨_, _, rfl⟩) (fm_isName hinj), (List.forall_mem_cons.mpr ⟨fw_row nn_PM2_ok (x := 91) (k := 0) (mn := 22) (np := 1) (ob := true) (ci := 8) (⟨"NameNotes$Tape", "refuse", "(I)Z"⟩, prog_10_method_14_code, 2, (Option.some Jvm.ClassFile.FieldType.boolean), 1, true, 1) rfl (by decide +kernel) rfl rfl (by decide) (fun _ => ⟨_, _, rfl⟩) (fm_refuse hinj), (fun _ h => absurd h List.not_mem_nil)⟩)⟩) (fun as σ K h => by
  obtain ⟨x, rfl, hx, hd, hw, h1, h2, h3⟩ := h
  refine ⟨rfl, fun G hG => fs_seek58_0 hG ⟨rfl, ?_⟩⟩
  refine fs_seek58_4 hG ⟨fun z => ?_, fun z => ⟨_, rfl, fs_seek58_12 hG (h1 (fw_bo_eq z))⟩⟩
  have hn := fw_bo_ne z
  exact seek_gen (k := 58) (n := 6) (K := K) (σ := σ) (x := x) (G2 := fun i => G 17 [some (2, 1, 0), some (2, 58, 0), some (0, 0, x), some (0, 0, i)] [] σ) (G4 := fun i => G 47 [some (2, 1, 0), some (2, 58, 0), some (0, 0, x), some (0, 0, i)] [] σ) (by decide) (fun a3 q => fs_seek58_17 hG q) hx hd (hw hn) (fun q i => fs_seek58_47 hG ⟨_, rfl, fs_seek58_52 hG (h2 hn q)⟩) (h3 hn))
theorem fm_putl59 (hinj : nn_inj ad) : fw_H l cy ad wr cr D 26 0 (putl_k 59 5) := fw_mk hinj (⟨"NameNotes", "put", "([JIJ)V"⟩, prog_1_method_87_code, 4, (Option.none : Option Jvm.ClassFile.FieldType), 3, false, 4) rfl rfl nn_KI1_ok nn_KJ1_ok nn_PF1_ok nn_PS1_ok (by decide +kernel) rfl rfl (fun _ h => absurd h List.not_mem_nil) (fun as σ K h => by
  obtain ⟨x, v, rfl, h1, h2⟩ := h
  exact ⟨rfl, fun G hG => put_gen (k := 59) (n := 5) (K := K) (σ := σ) (x := x) (c := fw_d v) (by decide) (fs_putl59_0 hG) h1 h2⟩)
theorem fm_isIn59 (hinj : nn_inj ad) : fw_H l cy ad wr cr D 25 0 (isIn_k 59 5) := fw_mk hinj (⟨"NameNotes$StudioReader", "isIn", "([JI)Z"⟩, prog_9_method_13_code, 4, (Option.some Jvm.ClassFile.FieldType.boolean), 2, true, 1) rfl rfl nn_KI3_ok nn_KJ3_ok nn_PF3_ok nn_PS3_ok (by decide +kernel) rfl rfl (fun _ h => absurd h List.not_mem_nil) (fun as σ K h => by
  obtain ⟨x, rfl, hx, hd, hw, h⟩ := h
  exact ⟨rfl, fun G hG => fs_isIn59_0 hG (isIn_gen (k := 59) (n := 5) (K := K) (σ := σ) (x := x) (G2 := fun i => G 2 [some (2, 48, 0), some (2, 59, 0), some (0, 0, x), some (0, 0, i)] [] σ) (by decide) (fun a3 q => fs_isIn59_2 hG q) hx hd hw h)⟩)
theorem fm_seek59 (hinj : nn_inj ad) : fw_H l cy ad wr cr D 33 1 (seek_k 59 5) := fw_mk hinj (⟨"NameNotes$Tape", "seek", "([JI)I"⟩, prog_10_method_11_code, 4, (Option.some Jvm.ClassFile.FieldType.int), 2, true, 0) rfl rfl nn_KI2_ok nn_KJ2_ok nn_PF2_ok nn_PS2_ok (by decide +kernel) rfl rfl (List.forall_mem_cons.mpr ⟨fw_row nn_PM2_ok (x := 87) (k := 0) (mn := 24) (np := 0) (ob := true) (ci := 8) (⟨"NameNotes$Tape", "isName", "()Z"⟩, prog_10_method_9_code, 1, (Option.some Jvm.ClassFile.FieldType.boolean), 0, true, 1) rfl (by decide +kernel) rfl rfl (by decide) (fun _ => ⟨_, _, rfl⟩) (fm_isName hinj), (List.forall_mem_cons.mpr ⟨fw_row nn_PM2_ok (x := 91) (k := 0) (mn := 22) (np := 1) (ob := true) (ci := 8) (⟨"NameNotes$Tape", "refuse", "(I)Z"⟩, prog_10_method_14_code, 2, (Option.some Jvm.ClassFile.FieldType.boolean), 1, true, 1) rfl (by decide +kernel) rfl rfl (by decide) (fun _ => ⟨_, _, rfl⟩) (fm_refuse hinj), (fun _ h => absurd h List.not_mem_nil)⟩)⟩) (fun as σ K h => by
  obtain ⟨x, rfl, hx, hd, hw, h1, h2, h3⟩ := h
  refine ⟨rfl, fun G hG => fs_seek59_0 hG ⟨rfl, ?_⟩⟩
  refine fs_seek59_4 hG ⟨fun z => ?_, fun z => ⟨_, rfl, fs_seek59_12 hG (h1 (fw_bo_eq z))⟩⟩
  have hn := fw_bo_ne z
  exact seek_gen (k := 59) (n := 5) (K := K) (σ := σ) (x := x) (G2 := fun i => G 17 [some (2, 1, 0), some (2, 59, 0), some (0, 0, x), some (0, 0, i)] [] σ) (G4 := fun i => G 47 [some (2, 1, 0), some (2, 59, 0), some (0, 0, x), some (0, 0, i)] [] σ) (by decide) (fun a3 q => fs_seek59_17 hG q) hx hd (hw hn) (fun q i => fs_seek59_47 hG ⟨_, rfl, fs_seek59_52 hG (h2 hn q)⟩) (h3 hn))
theorem fm_at (hinj : nn_inj ad) : fw_H l cy ad wr cr D 29 0 sp_at := fw_H_of (List.forall_mem_cons.mpr ⟨fm_at50 hinj, (List.forall_mem_cons.mpr ⟨fm_at51 hinj, (List.forall_mem_cons.mpr ⟨fm_at52 hinj, (List.forall_mem_cons.mpr ⟨fm_at54 hinj, (List.forall_mem_cons.mpr ⟨fm_at55 hinj, (List.forall_mem_cons.mpr ⟨fm_at56 hinj, (List.forall_mem_cons.mpr ⟨fm_at64 hinj, (List.forall_mem_cons.mpr ⟨fm_at53 hinj, (fun _ h => absurd h List.not_mem_nil)⟩)⟩)⟩)⟩)⟩)⟩)⟩)⟩)
theorem fm_put (hinj : nn_inj ad) : fw_H l cy ad wr cr D 27 0 sp_put := fw_H_of (List.forall_mem_cons.mpr ⟨fm_put50 hinj, (List.forall_mem_cons.mpr ⟨fm_put51 hinj, (List.forall_mem_cons.mpr ⟨fm_put52 hinj, (List.forall_mem_cons.mpr ⟨fm_put54 hinj, (List.forall_mem_cons.mpr ⟨fm_put55 hinj, (List.forall_mem_cons.mpr ⟨fm_put56 hinj, (List.forall_mem_cons.mpr ⟨fm_put64 hinj, (List.forall_mem_cons.mpr ⟨fm_put53 hinj, (fun _ h => absurd h List.not_mem_nil)⟩)⟩)⟩)⟩)⟩)⟩)⟩)⟩)
theorem fm_fill (hinj : nn_inj ad) : fw_H l cy ad wr cr D 7 0 sp_fill := fw_H_of (List.forall_mem_cons.mpr ⟨fm_fill50 hinj, (List.forall_mem_cons.mpr ⟨fm_fill51 hinj, (List.forall_mem_cons.mpr ⟨fm_fill52 hinj, (List.forall_mem_cons.mpr ⟨fm_fill54 hinj, (List.forall_mem_cons.mpr ⟨fm_fill55 hinj, (List.forall_mem_cons.mpr ⟨fm_fill56 hinj, (List.forall_mem_cons.mpr ⟨fm_fill64 hinj, (List.forall_mem_cons.mpr ⟨fm_fill53 hinj, (fun _ h => absurd h List.not_mem_nil)⟩)⟩)⟩)⟩)⟩)⟩)⟩)⟩)
theorem fm_putl (hinj : nn_inj ad) : fw_H l cy ad wr cr D 26 0 sp_putl := fw_H_of (List.forall_mem_cons.mpr ⟨fm_putl57 hinj, (List.forall_mem_cons.mpr ⟨fm_putl58 hinj, (List.forall_mem_cons.mpr ⟨fm_putl59 hinj, (fun _ h => absurd h List.not_mem_nil)⟩)⟩)⟩)
theorem fm_isIn (hinj : nn_inj ad) : fw_H l cy ad wr cr D 25 0 sp_isIn := fw_H_of (List.forall_mem_cons.mpr ⟨fm_isIn57 hinj, (List.forall_mem_cons.mpr ⟨fm_isIn58 hinj, (List.forall_mem_cons.mpr ⟨fm_isIn59 hinj, (fun _ h => absurd h List.not_mem_nil)⟩)⟩)⟩)
theorem fm_seek (hinj : nn_inj ad) : fw_H l cy ad wr cr D 33 1 sp_seek := fw_H_of (List.forall_mem_cons.mpr ⟨fm_seek57 hinj, (List.forall_mem_cons.mpr ⟨fm_seek58 hinj, (List.forall_mem_cons.mpr ⟨fm_seek59 hinj, (fun _ h => absurd h List.not_mem_nil)⟩)⟩)⟩)
end
