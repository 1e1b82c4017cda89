/-! the class's reader: its lines -/
abbrev fk_readTune : List fw_CR := [(107, 1, true, 8, 0, sp_refuse), (113, 0, true, 8, 2, sp_step), (116, 0, true, 7, 1, sp_isNewName), (127, 3, false, 0, 0, sp_putl), (134, 3, false, 0, 0, sp_put), (137, 1, true, 7, 4, sp_readNote)]
abbrev st_readTune : fw_K → fw_KR → fw_K := fw_st vwCl nn_sh nn_kd fw_kv fw_wc (nn_KI3.map (fun x => x.1)) (nn_KJ3.map (fun x => x.1)) (nn_PF3.map (fun x => x.1)) (nn_PS3.map (fun x => x.1)) fk_readTune 5 nn_dt21 4 1
theorem fs_readTune_0 {G : fw_K} {R : fw_KR} (hG : fw_cls st_readTune R G) {σ : ab_SG} (h : (fw_c (σ 49 11) < fw_c 9 → sp_step [(2, 1, 0)] σ (fun rv σ2 => G 30 [some (2, 48, 0), some (0, 0, σ 49 11), none, none] (rv.toList ++ []) σ2)) ∧ (fw_c 9 ≤ fw_c (σ 49 11) → sp_refuse [(2, 1, 0), (0, 0, 4)] σ (fun rv σ2 => G 22 [some (2, 48, 0), some (0, 0, σ 49 11), none, none] (rv.toList ++ []) σ2))) : G 0 [some (2, 48, 0), none, none, none] [] σ := fw_on hG [22, 30, 34, 57, 69, 89, 94, 97, 123] 200 h
theorem fs_readTune_30 {G : fw_K} {R : fw_KR} (hG : fw_cls st_readTune R G) {a1 : Int} {σ : ab_SG} (h : sp_isNewName [(2, 48, 0)] σ (fun rv σ2 => G 34 [some (2, 48, 0), some (0, 0, a1), none, none] (rv.toList ++ []) σ2)) : G 30 [some (2, 48, 0), some (0, 0, a1), none, none] [] σ := fw_on hG [22, 30, 34, 57, 69, 89, 94, 97, 123] 200 h
theorem fs_readTune_22 {G : fw_K} {R : fw_KR} (hG : fw_cls st_readTune R G) {a1 b0 : Int} {σ : ab_SG} (h : (0 ≤ fw_c b0 ∧ fw_c b0 ≤ 1) ∧ R (some (0, 0, b0)) σ) : G 22 [some (2, 48, 0), some (0, 0, a1), none, none] [(0, 0, b0)] σ := fw_on hG [22, 30, 34, 57, 69, 89, 94, 97, 123] 200 h
theorem fs_readTune_34 {G : fw_K} {R : fw_KR} (hG : fw_cls st_readTune R G) {a1 b0 : Int} {σ : ab_SG} (h : (fw_c b0 ≠ 0 → sp_putl [(2, 57, 0), (0, 0, a1), (1, 0, σ 1 6)] σ (fun rv σ2 => G 57 [some (2, 48, 0), some (0, 0, a1), none, none] (rv.toList ++ []) σ2)) ∧ (fw_c b0 = 0 → (0 ≤ fw_c 0 ∧ fw_c 0 ≤ 1) ∧ R (some (0, 0, 0)) σ)) : G 34 [some (2, 48, 0), some (0, 0, a1), none, none] [(0, 0, b0)] σ := fw_on hG [22, 30, 34, 57, 69, 89, 94, 97, 123] 200 h
theorem fs_readTune_57 {G : fw_K} {R : fw_KR} (hG : fw_cls st_readTune R G) {a1 : Int} {σ : ab_SG} (h : sp_put [(2, 52, 0), (0, 0, a1), (0, 0, 0)] σ (fun rv σ2 => G 69 [some (2, 48, 0), some (0, 0, a1), none, none] (rv.toList ++ []) σ2)) : G 57 [some (2, 48, 0), some (0, 0, a1), none, none] [] σ := fw_on hG [22, 30, 34, 57, 69, 89, 94, 97, 123] 200 h
theorem fs_readTune_69 {G : fw_K} {R : fw_KR} (hG : fw_cls st_readTune R G) {a1 : Int} {σ : ab_SG} (h : sp_step [(2, 1, 0)] (ab_ups σ 49 11 (fw_c ((σ 49 11) + 1))) (fun rv σ2 => G 89 [some (2, 48, 0), some (0, 0, a1), none, none] (rv.toList ++ []) σ2)) : G 69 [some (2, 48, 0), some (0, 0, a1), none, none] [] σ := fw_on hG [22, 30, 34, 57, 69, 89, 94, 97, 123] 200 h
theorem fs_readTune_89 {G : fw_K} {R : fw_KR} (hG : fw_cls st_readTune R G) {a1 : Int} {σ : ab_SG} (h : sp_readNote [(2, 48, 0), (0, 0, a1)] σ (fun rv σ2 => G 94 [some (2, 48, 0), some (0, 0, a1), none, none] (rv.toList ++ []) σ2)) : G 89 [some (2, 48, 0), some (0, 0, a1), none, none] [] σ := fw_on hG [22, 30, 34, 57, 69, 89, 94, 97, 123] 200 h
theorem fs_readTune_94 {G : fw_K} {R : fw_KR} (hG : fw_cls st_readTune R G) {a1 b0 : Int} {σ : ab_SG} (h : G 97 [some (2, 48, 0), some (0, 0, a1), some (0, 0, b0), some (0, 0, 0)] [] σ) : G 94 [some (2, 48, 0), some (0, 0, a1), none, none] [(0, 0, b0)] σ := fw_on hG [22, 30, 34, 57, 69, 89, 94, 97, 123] 200 h
theorem fs_readTune_97 {G : fw_K} {R : fw_KR} (hG : fw_cls st_readTune R G) {a1 a2 a3 : Int} {σ : ab_SG} (h : (fw_c 9 ≤ fw_c a3 → (0 ≤ fw_c a2 ∧ fw_c a2 ≤ 1) ∧ R (some (0, 0, a2)) σ) ∧ (fw_c a3 < fw_c 9 → (fw_c a2 = 0 → (0 ≤ fw_c a2 ∧ fw_c a2 ≤ 1) ∧ R (some (0, 0, a2)) σ) ∧ (fw_c a2 ≠ 0 → (fw_c (σ 1 5) ≠ fw_c 3 → (0 ≤ fw_c a2 ∧ fw_c a2 ≤ 1) ∧ R (some (0, 0, a2)) σ) ∧ (fw_c (σ 1 5) = fw_c 3 → sp_readNote [(2, 48, 0), (0, 0, a1)] σ (fun rv σ2 => G 123 [some (2, 48, 0), some (0, 0, a1), some (0, 0, a2), some (0, 0, a3)] (rv.toList ++ []) σ2))))) : G 97 [some (2, 48, 0), some (0, 0, a1), some (0, 0, a2), some (0, 0, a3)] [] σ := fw_on hG [22, 30, 34, 57, 69, 89, 94, 97, 123] 200 h
theorem fs_readTune_123 {G : fw_K} {R : fw_KR} (hG : fw_cls st_readTune R G) {a1 a2 a3 b0 : Int} {σ : ab_SG} (h : G 97 [some (2, 48, 0), some (0, 0, a1), some (0, 0, b0), some (0, 0, a3 + 1)] [] σ) : G 123 [some (2, 48, 0), some (0, 0, a1), some (0, 0, a2), some (0, 0, a3)] [(0, 0, b0)] σ := fw_on hG [22, 30, 34, 57, 69, 89, 94, 97, 123] 200 h
abbrev fk_readClue : List fw_CR := [(107, 1, true, 8, 0, sp_refuse), (113, 0, true, 8, 2, sp_step), (116, 0, true, 7, 1, sp_isNewName), (127, 3, false, 0, 0, sp_putl), (134, 3, false, 0, 0, sp_put), (166, 1, true, 7, 4, sp_readLeft)]
abbrev st_readClue : fw_K → fw_KR → fw_K := fw_st vwCl nn_sh nn_kd fw_kv fw_wc (nn_KI3.map (fun x => x.1)) (nn_KJ3.map (fun x => x.1)) (nn_PF3.map (fun x => x.1)) (nn_PS3.map (fun x => x.1)) fk_readClue 5 nn_dt31 4 1
theorem fs_readClue_0 {G : fw_K} {R : fw_KR} (hG : fw_cls st_readClue R G) {σ : ab_SG} (h : (fw_c (σ 49 12) < fw_c 6 → sp_step [(2, 1, 0)] σ (fun rv σ2 => G 30 [some (2, 48, 0), some (0, 0, σ 49 12), none, none] (rv.toList ++ []) σ2)) ∧ (fw_c 6 ≤ fw_c (σ 49 12) → sp_refuse [(2, 1, 0), (0, 0, 4)] σ (fun rv σ2 => G 22 [some (2, 48, 0), some (0, 0, σ 49 12), none, none] (rv.toList ++ []) σ2))) : G 0 [some (2, 48, 0), none, none, none] [] σ := fw_on hG [22, 30, 34, 57, 69, 89, 94, 97, 123] 200 h
theorem fs_readClue_30 {G : fw_K} {R : fw_KR} (hG : fw_cls st_readClue R G) {a1 : Int} {σ : ab_SG} (h : sp_isNewName [(2, 48, 0)] σ (fun rv σ2 => G 34 [some (2, 48, 0), some (0, 0, a1), none, none] (rv.toList ++ []) σ2)) : G 30 [some (2, 48, 0), some (0, 0, a1), none, none] [] σ := fw_on hG [22, 30, 34, 57, 69, 89, 94, 97, 123] 200 h
theorem fs_readClue_22 {G : fw_K} {R : fw_KR} (hG : fw_cls st_readClue R G) {a1 b0 : Int} {σ : ab_SG} (h : (0 ≤ fw_c b0 ∧ fw_c b0 ≤ 1) ∧ R (some (0, 0, b0)) σ) : G 22 [some (2, 48, 0), some (0, 0, a1), none, none] [(0, 0, b0)] σ := fw_on hG [22, 30, 34, 57, 69, 89, 94, 97, 123] 200 h
theorem fs_readClue_34 {G : fw_K} {R : fw_KR} (hG : fw_cls st_readClue R G) {a1 b0 : Int} {σ : ab_SG} (h : (fw_c b0 ≠ 0 → sp_putl [(2, 58, 0), (0, 0, a1), (1, 0, σ 1 6)] σ (fun rv σ2 => G 57 [some (2, 48, 0), some (0, 0, a1), none, none] (rv.toList ++ []) σ2)) ∧ (fw_c b0 = 0 → (0 ≤ fw_c 0 ∧ fw_c 0 ≤ 1) ∧ R (some (0, 0, 0)) σ)) : G 34 [some (2, 48, 0), some (0, 0, a1), none, none] [(0, 0, b0)] σ := fw_on hG [22, 30, 34, 57, 69, 89, 94, 97, 123] 200 h
theorem fs_readClue_57 {G : fw_K} {R : fw_KR} (hG : fw_cls st_readClue R G) {a1 : Int} {σ : ab_SG} (h : sp_put [(2, 54, 0), (0, 0, a1), (0, 0, 0)] σ (fun rv σ2 => G 69 [some (2, 48, 0), some (0, 0, a1), none, none] (rv.toList ++ []) σ2)) : G 57 [some (2, 48, 0), some (0, 0, a1), none, none] [] σ := fw_on hG [22, 30, 34, 57, 69, 89, 94, 97, 123] 200 h
theorem fs_readClue_69 {G : fw_K} {R : fw_KR} (hG : fw_cls st_readClue R G) {a1 : Int} {σ : ab_SG} (h : sp_step [(2, 1, 0)] (ab_ups σ 49 12 (fw_c ((σ 49 12) + 1))) (fun rv σ2 => G 89 [some (2, 48, 0), some (0, 0, a1), none, none] (rv.toList ++ []) σ2)) : G 69 [some (2, 48, 0), some (0, 0, a1), none, none] [] σ := fw_on hG [22, 30, 34, 57, 69, 89, 94, 97, 123] 200 h
theorem fs_readClue_89 {G : fw_K} {R : fw_KR} (hG : fw_cls st_readClue R G) {a1 : Int} {σ : ab_SG} (h : sp_readLeft [(2, 48, 0), (0, 0, a1)] σ (fun rv σ2 => G 94 [some (2, 48, 0), some (0, 0, a1), none, none] (rv.toList ++ []) σ2)) : G 89 [some (2, 48, 0), some (0, 0, a1), none, none] [] σ := fw_on hG [22, 30, 34, 57, 69, 89, 94, 97, 123] 200 h
theorem fs_readClue_94 {G : fw_K} {R : fw_KR} (hG : fw_cls st_readClue R G) {a1 b0 : Int} {σ : ab_SG} (h : G 97 [some (2, 48, 0), some (0, 0, a1), some (0, 0, b0), some (0, 0, 0)] [] σ) : G 94 [some (2, 48, 0), some (0, 0, a1), none, none] [(0, 0, b0)] σ := fw_on hG [22, 30, 34, 57, 69, 89, 94, 97, 123] 200 h
theorem fs_readClue_97 {G : fw_K} {R : fw_KR} (hG : fw_cls st_readClue R G) {a1 a2 a3 : Int} {σ : ab_SG} (h : (fw_c 9 ≤ fw_c a3 → (0 ≤ fw_c a2 ∧ fw_c a2 ≤ 1) ∧ R (some (0, 0, a2)) σ) ∧ (fw_c a3 < fw_c 9 → (fw_c a2 = 0 → (0 ≤ fw_c a2 ∧ fw_c a2 ≤ 1) ∧ R (some (0, 0, a2)) σ) ∧ (fw_c a2 ≠ 0 → (fw_c (σ 1 5) ≠ fw_c 2 → (0 ≤ fw_c a2 ∧ fw_c a2 ≤ 1) ∧ R (some (0, 0, a2)) σ) ∧ (fw_c (σ 1 5) = fw_c 2 → sp_readLeft [(2, 48, 0), (0, 0, a1)] σ (fun rv σ2 => G 123 [some (2, 48, 0), some (0, 0, a1), some (0, 0, a2), some (0, 0, a3)] (rv.toList ++ []) σ2))))) : G 97 [some (2, 48, 0), some (0, 0, a1), some (0, 0, a2), some (0, 0, a3)] [] σ := fw_on hG [22, 30, 34, 57, 69, 89, 94, 97, 123] 200 h
theorem fs_readClue_123 {G : fw_K} {R : fw_KR} (hG : fw_cls st_readClue R G) {a1 a2 a3 b0 : Int} {σ : ab_SG} (h : G 97 [some (2, 48, 0), some (0, 0, a1), some (0, 0, b0), some (0, 0, a3 + 1)] [] σ) : G 123 [some (2, 48, 0), some (0, 0, a1), some (0, 0, a2), some (0, 0, a3)] [(0, 0, b0)] σ := fw_on hG [22, 30, 34, 57, 69, 89, 94, 97, 123] 200 h
abbrev fk_readPerson : List fw_CR := [(107, 1, true, 8, 0, sp_refuse), (113, 0, true, 8, 2, sp_step), (116, 0, true, 7, 1, sp_isNewName), (127, 3, false, 0, 0, sp_putl)]
abbrev st_readPerson : fw_K → fw_KR → fw_K := fw_st vwCl nn_sh nn_kd fw_kv fw_wc (nn_KI3.map (fun x => x.1)) (nn_KJ3.map (fun x => x.1)) (nn_PF3.map (fun x => x.1)) (nn_PS3.map (fun x => x.1)) fk_readPerson 4 nn_dt35 2 1
theorem fs_readPerson_0 {G : fw_K} {R : fw_KR} (hG : fw_cls st_readPerson R G) {σ : ab_SG} (h : (fw_c (σ 49 13) < fw_c 5 → sp_step [(2, 1, 0)] σ (fun rv σ2 => G 29 [some (2, 48, 0), some (0, 0, σ 49 13)] (rv.toList ++ []) σ2)) ∧ (fw_c 5 ≤ fw_c (σ 49 13) → sp_refuse [(2, 1, 0), (0, 0, 4)] σ (fun rv σ2 => G 21 [some (2, 48, 0), some (0, 0, σ 49 13)] (rv.toList ++ []) σ2))) : G 0 [some (2, 48, 0), none] [] σ := fw_on hG [21, 29, 33, 56, 76] 200 h
theorem fs_readPerson_29 {G : fw_K} {R : fw_KR} (hG : fw_cls st_readPerson R G) {a1 : Int} {σ : ab_SG} (h : sp_isNewName [(2, 48, 0)] σ (fun rv σ2 => G 33 [some (2, 48, 0), some (0, 0, a1)] (rv.toList ++ []) σ2)) : G 29 [some (2, 48, 0), some (0, 0, a1)] [] σ := fw_on hG [21, 29, 33, 56, 76] 200 h
theorem fs_readPerson_21 {G : fw_K} {R : fw_KR} (hG : fw_cls st_readPerson R G) {a1 b0 : Int} {σ : ab_SG} (h : (0 ≤ fw_c b0 ∧ fw_c b0 ≤ 1) ∧ R (some (0, 0, b0)) σ) : G 21 [some (2, 48, 0), some (0, 0, a1)] [(0, 0, b0)] σ := fw_on hG [21, 29, 33, 56, 76] 200 h
theorem fs_readPerson_33 {G : fw_K} {R : fw_KR} (hG : fw_cls st_readPerson R G) {a1 b0 : Int} {σ : ab_SG} (h : (fw_c b0 ≠ 0 → sp_putl [(2, 59, 0), (0, 0, a1), (1, 0, σ 1 6)] σ (fun rv σ2 => G 56 [some (2, 48, 0), some (0, 0, a1)] (rv.toList ++ []) σ2)) ∧ (fw_c b0 = 0 → (0 ≤ fw_c 0 ∧ fw_c 0 ≤ 1) ∧ R (some (0, 0, 0)) σ)) : G 33 [some (2, 48, 0), some (0, 0, a1)] [(0, 0, b0)] σ := fw_on hG [21, 29, 33, 56, 76] 200 h
theorem fs_readPerson_56 {G : fw_K} {R : fw_KR} (hG : fw_cls st_readPerson R G) {a1 : Int} {σ : ab_SG} (h : sp_step [(2, 1, 0)] (ab_ups σ 49 13 (fw_c ((σ 49 13) + 1))) (fun rv σ2 => G 76 [some (2, 48, 0), some (0, 0, a1)] (rv.toList ++ []) σ2)) : G 56 [some (2, 48, 0), some (0, 0, a1)] [] σ := fw_on hG [21, 29, 33, 56, 76] 200 h
theorem fs_readPerson_76 {G : fw_K} {R : fw_KR} (hG : fw_cls st_readPerson R G) {a1 : Int} {σ : ab_SG} (h : (0 ≤ fw_c 1 ∧ fw_c 1 ≤ 1) ∧ R (some (0, 0, 1)) σ) : G 76 [some (2, 48, 0), some (0, 0, a1)] [] σ := fw_on hG [21, 29, 33, 56, 76] 200 h
abbrev fk_readKnows : List fw_CR := [(107, 1, true, 8, 0, sp_refuse), (113, 0, true, 8, 2, sp_step), (134, 3, false, 0, 0, sp_put), (140, 2, false, 0, 0, sp_at), (144, 2, true, 8, 1, sp_needNumber), (169, 2, true, 8, 1, sp_seek), (173, 2, false, 0, 0, sp_has), (188, 3, true, 6, 1, sp_setNinth49)]
abbrev st_readKnows : fw_K → fw_KR → fw_K := fw_st vwCl nn_sh nn_kd fw_kv fw_wc (nn_KI3.map (fun x => x.1)) (nn_KJ3.map (fun x => x.1)) (nn_PF3.map (fun x => x.1)) (nn_PS3.map (fun x => x.1)) fk_readKnows 4 nn_dt36 5 1
theorem fs_readKnows_0 {G : fw_K} {R : fw_KR} (hG : fw_cls st_readKnows R G) {σ : ab_SG} (h : sp_step [(2, 1, 0)] σ (fun rv σ2 => G 7 [some (2, 48, 0), none, none, none, none] (rv.toList ++ []) σ2)) : G 0 [some (2, 48, 0), none, none, none, none] [] σ := fw_on hG [7, 28, 51, 72, 88, 96, 107, 132, 139, 149, 170, 177] 200 h
theorem fs_readKnows_7 {G : fw_K} {R : fw_KR} (hG : fw_cls st_readKnows R G) {σ : ab_SG} (h : sp_seek [(2, 1, 0), (2, 59, 0), (0, 0, σ 49 13)] σ (fun rv σ2 => G 28 [some (2, 48, 0), none, none, none, none] (rv.toList ++ []) σ2)) : G 7 [some (2, 48, 0), none, none, none, none] [] σ := fw_on hG [7, 28, 51, 72, 88, 96, 107, 132, 139, 149, 170, 177] 200 h
theorem fs_readKnows_28 {G : fw_K} {R : fw_KR} (hG : fw_cls st_readKnows R G) {b0 : Int} {σ : ab_SG} (h : (fw_c b0 ≠ fw_c (-1) → sp_step [(2, 1, 0)] σ (fun rv σ2 => G 51 [some (2, 48, 0), some (0, 0, b0), some (0, 0, σ 1 4), none, none] (rv.toList ++ []) σ2)) ∧ (fw_c b0 = fw_c (-1) → (0 ≤ fw_c 0 ∧ fw_c 0 ≤ 1) ∧ R (some (0, 0, 0)) σ)) : G 28 [some (2, 48, 0), none, none, none, none] [(0, 0, b0)] σ := fw_on hG [7, 28, 51, 72, 88, 96, 107, 132, 139, 149, 170, 177] 200 h
theorem fs_readKnows_51 {G : fw_K} {R : fw_KR} (hG : fw_cls st_readKnows R G) {a1 a2 : Int} {σ : ab_SG} (h : sp_seek [(2, 1, 0), (2, 57, 0), (0, 0, σ 49 11)] σ (fun rv σ2 => G 72 [some (2, 48, 0), some (0, 0, a1), some (0, 0, a2), none, none] (rv.toList ++ []) σ2)) : G 51 [some (2, 48, 0), some (0, 0, a1), some (0, 0, a2), none, none] [] σ := fw_on hG [7, 28, 51, 72, 88, 96, 107, 132, 139, 149, 170, 177] 200 h
theorem fs_readKnows_72 {G : fw_K} {R : fw_KR} (hG : fw_cls st_readKnows R G) {a1 a2 b0 : Int} {σ : ab_SG} (h : (fw_c b0 ≠ fw_c (-1) → sp_at [(2, 64, 0), (0, 0, a1)] σ (fun rv σ2 => G 88 [some (2, 48, 0), some (0, 0, a1), some (0, 0, a2), some (0, 0, b0), none] (rv.toList ++ []) σ2)) ∧ (fw_c b0 = fw_c (-1) → (0 ≤ fw_c 0 ∧ fw_c 0 ≤ 1) ∧ R (some (0, 0, 0)) σ)) : G 72 [some (2, 48, 0), some (0, 0, a1), some (0, 0, a2), none, none] [(0, 0, b0)] σ := fw_on hG [7, 28, 51, 72, 88, 96, 107, 132, 139, 149, 170, 177] 200 h
theorem fs_readKnows_88 {G : fw_K} {R : fw_KR} (hG : fw_cls st_readKnows R G) {a1 a2 a3 b0 : Int} {σ : ab_SG} (h : sp_has [(0, 0, b0), (0, 0, a3)] σ (fun rv σ2 => G 96 [some (2, 48, 0), some (0, 0, a1), some (0, 0, a2), some (0, 0, a3), some (0, 0, b0)] (rv.toList ++ []) σ2)) : G 88 [some (2, 48, 0), some (0, 0, a1), some (0, 0, a2), some (0, 0, a3), none] [(0, 0, b0)] σ := fw_on hG [7, 28, 51, 72, 88, 96, 107, 132, 139, 149, 170, 177] 200 h
theorem fs_readKnows_96 {G : fw_K} {R : fw_KR} (hG : fw_cls st_readKnows R G) {a1 a2 a3 a4 b0 : Int} {σ : ab_SG} (h : (fw_c b0 = 0 → sp_put [(2, 64, 0), (0, 0, a1), (0, 0, fw_op 9 a4 (fw_op 5 1 a3))] σ (fun rv σ2 => G 132 [some (2, 48, 0), some (0, 0, a1), some (0, 0, a2), some (0, 0, a3), some (0, 0, a4)] (rv.toList ++ []) σ2)) ∧ (fw_c b0 ≠ 0 → sp_refuse [(2, 1, 0), (0, 0, 3)] σ (fun rv σ2 => G 107 [some (2, 48, 0), some (0, 0, a1), some (0, 0, a2), some (0, 0, a3), some (0, 0, a4)] (rv.toList ++ []) σ2))) : G 96 [some (2, 48, 0), some (0, 0, a1), some (0, 0, a2), some (0, 0, a3), some (0, 0, a4)] [(0, 0, b0)] σ := fw_on hG [7, 28, 51, 72, 88, 96, 107, 132, 139, 149, 170, 177] 200 h
theorem fs_readKnows_132 {G : fw_K} {R : fw_KR} (hG : fw_cls st_readKnows R G) {a1 a2 a3 a4 : Int} {σ : ab_SG} (h : sp_step [(2, 1, 0)] σ (fun rv σ2 => G 139 [some (2, 48, 0), some (0, 0, a1), some (0, 0, a2), some (0, 0, a3), some (0, 0, a4)] (rv.toList ++ []) σ2)) : G 132 [some (2, 48, 0), some (0, 0, a1), some (0, 0, a2), some (0, 0, a3), some (0, 0, a4)] [] σ := fw_on hG [7, 28, 51, 72, 88, 96, 107, 132, 139, 149, 170, 177] 200 h
theorem fs_readKnows_107 {G : fw_K} {R : fw_KR} (hG : fw_cls st_readKnows R G) {a1 a2 a3 a4 b0 : Int} {σ : ab_SG} (h : (0 ≤ fw_c 0 ∧ fw_c 0 ≤ 1) ∧ R (some (0, 0, 0)) (ab_ups σ 1 10 (fw_c a2))) : G 107 [some (2, 48, 0), some (0, 0, a1), some (0, 0, a2), some (0, 0, a3), some (0, 0, a4)] [(0, 0, b0)] σ := fw_on hG [7, 28, 51, 72, 88, 96, 107, 132, 139, 149, 170, 177] 200 h
theorem fs_readKnows_139 {G : fw_K} {R : fw_KR} (hG : fw_cls st_readKnows R G) {a1 a2 a3 a4 : Int} {σ : ab_SG} (h : sp_needNumber [(2, 1, 0), (0, 0, 0), (0, 0, 9)] σ (fun rv σ2 => G 149 [some (2, 48, 0), some (0, 0, a1), some (0, 0, a2), some (0, 0, a3), some (0, 0, a4)] (rv.toList ++ []) σ2)) : G 139 [some (2, 48, 0), some (0, 0, a1), some (0, 0, a2), some (0, 0, a3), some (0, 0, a4)] [] σ := fw_on hG [7, 28, 51, 72, 88, 96, 107, 132, 139, 149, 170, 177] 200 h
theorem fs_readKnows_149 {G : fw_K} {R : fw_KR} (hG : fw_cls st_readKnows R G) {a1 a2 a3 a4 b0 : Int} {σ : ab_SG} (h : (fw_c b0 ≠ 0 → sp_setNinth49 [(2, 49, 0), (0, 0, a1), (0, 0, a3), (0, 0, σ 1 8)] σ (fun rv σ2 => G 170 [some (2, 48, 0), some (0, 0, a1), some (0, 0, a2), some (0, 0, a3), some (0, 0, a4)] (rv.toList ++ []) σ2)) ∧ (fw_c b0 = 0 → (0 ≤ fw_c 0 ∧ fw_c 0 ≤ 1) ∧ R (some (0, 0, 0)) σ)) : G 149 [some (2, 48, 0), some (0, 0, a1), some (0, 0, a2), some (0, 0, a3), some (0, 0, a4)] [(0, 0, b0)] σ := fw_on hG [7, 28, 51, 72, 88, 96, 107, 132, 139, 149, 170, 177] 200 h
theorem fs_readKnows_170 {G : fw_K} {R : fw_KR} (hG : fw_cls st_readKnows R G) {a1 a2 a3 a4 : Int} {σ : ab_SG} (h : sp_step [(2, 1, 0)] σ (fun rv σ2 => G 177 [some (2, 48, 0), some (0, 0, a1), some (0, 0, a2), some (0, 0, a3), some (0, 0, a4)] (rv.toList ++ []) σ2)) : G 170 [some (2, 48, 0), some (0, 0, a1), some (0, 0, a2), some (0, 0, a3), some (0, 0, a4)] [] σ := fw_on hG [7, 28, 51, 72, 88, 96, 107, 132, 139, 149, 170, 177] 200 h
theorem fs_readKnows_177 {G : fw_K} {R : fw_KR} (hG : fw_cls st_readKnows R G) {a1 a2 a3 a4 : Int} {σ : ab_SG} (h : (0 ≤ fw_c 1 ∧ fw_c 1 ≤ 1) ∧ R (some (0, 0, 1)) σ) : G 177 [some (2, 48, 0), some (0, 0, a1), some (0, 0, a2), some (0, 0, a3), some (0, 0, a4)] [] σ := fw_on hG [7, 28, 51, 72, 88, 96, 107, 132, 139, 149, 170, 177] 200 h
abbrev fk_readDare : List fw_CR := [(107, 1, true, 8, 0, sp_refuse), (113, 0, true, 8, 2, sp_step), (134, 3, false, 0, 0, sp_put), (144, 2, true, 8, 1, sp_needNumber), (169, 2, true, 8, 1, sp_seek), (173, 2, false, 0, 0, sp_has)]
abbrev st_readDare : fw_K → fw_KR → fw_K := fw_st vwCl nn_sh nn_kd fw_kv fw_wc (nn_KI3.map (fun x => x.1)) (nn_KJ3.map (fun x => x.1)) (nn_PF3.map (fun x => x.1)) (nn_PS3.map (fun x => x.1)) fk_readDare 4 nn_dt38 2 1
theorem fs_readDare_0 {G : fw_K} {R : fw_KR} (hG : fw_cls st_readDare R G) {σ : ab_SG} (h : sp_step [(2, 1, 0)] σ (fun rv σ2 => G 7 [some (2, 48, 0), none] (rv.toList ++ []) σ2)) : G 0 [some (2, 48, 0), none] [] σ := fw_on hG [7, 28, 44, 55, 75, 85, 108, 115] 200 h
theorem fs_readDare_7 {G : fw_K} {R : fw_KR} (hG : fw_cls st_readDare R G) {σ : ab_SG} (h : sp_seek [(2, 1, 0), (2, 59, 0), (0, 0, σ 49 13)] σ (fun rv σ2 => G 28 [some (2, 48, 0), none] (rv.toList ++ []) σ2)) : G 7 [some (2, 48, 0), none] [] σ := fw_on hG [7, 28, 44, 55, 75, 85, 108, 115] 200 h
theorem fs_readDare_28 {G : fw_K} {R : fw_KR} (hG : fw_cls st_readDare R G) {b0 : Int} {σ : ab_SG} (h : (fw_c b0 ≠ fw_c (-1) → sp_has [(0, 0, σ 48 3), (0, 0, b0)] σ (fun rv σ2 => G 44 [some (2, 48, 0), some (0, 0, b0)] (rv.toList ++ []) σ2)) ∧ (fw_c b0 = fw_c (-1) → (0 ≤ fw_c 0 ∧ fw_c 0 ≤ 1) ∧ R (some (0, 0, 0)) σ)) : G 28 [some (2, 48, 0), none] [(0, 0, b0)] σ := fw_on hG [7, 28, 44, 55, 75, 85, 108, 115] 200 h
theorem fs_readDare_44 {G : fw_K} {R : fw_KR} (hG : fw_cls st_readDare R G) {a1 b0 : Int} {σ : ab_SG} (h : (fw_c b0 = 0 → sp_step [(2, 1, 0)] (ab_ups σ 48 3 (fw_c (fw_op 9 (σ 48 3) (fw_op 5 1 a1)))) (fun rv σ2 => G 75 [some (2, 48, 0), some (0, 0, a1)] (rv.toList ++ []) σ2)) ∧ (fw_c b0 ≠ 0 → sp_refuse [(2, 1, 0), (0, 0, 3)] σ (fun rv σ2 => G 55 [some (2, 48, 0), some (0, 0, a1)] (rv.toList ++ []) σ2))) : G 44 [some (2, 48, 0), some (0, 0, a1)] [(0, 0, b0)] σ := fw_on hG [7, 28, 44, 55, 75, 85, 108, 115] 200 h
theorem fs_readDare_75 {G : fw_K} {R : fw_KR} (hG : fw_cls st_readDare R G) {a1 : Int} {σ : ab_SG} (h : sp_needNumber [(2, 1, 0), (0, 0, 0), (0, 0, 9)] σ (fun rv σ2 => G 85 [some (2, 48, 0), some (0, 0, a1)] (rv.toList ++ []) σ2)) : G 75 [some (2, 48, 0), some (0, 0, a1)] [] σ := fw_on hG [7, 28, 44, 55, 75, 85, 108, 115] 200 h
theorem fs_readDare_55 {G : fw_K} {R : fw_KR} (hG : fw_cls st_readDare R G) {a1 b0 : Int} {σ : ab_SG} (h : (0 ≤ fw_c b0 ∧ fw_c b0 ≤ 1) ∧ R (some (0, 0, b0)) σ) : G 55 [some (2, 48, 0), some (0, 0, a1)] [(0, 0, b0)] σ := fw_on hG [7, 28, 44, 55, 75, 85, 108, 115] 200 h
theorem fs_readDare_85 {G : fw_K} {R : fw_KR} (hG : fw_cls st_readDare R G) {a1 b0 : Int} {σ : ab_SG} (h : (fw_c b0 ≠ 0 → sp_put [(2, 56, 0), (0, 0, a1), (0, 0, σ 1 8)] σ (fun rv σ2 => G 108 [some (2, 48, 0), some (0, 0, a1)] (rv.toList ++ []) σ2)) ∧ (fw_c b0 = 0 → (0 ≤ fw_c 0 ∧ fw_c 0 ≤ 1) ∧ R (some (0, 0, 0)) σ)) : G 85 [some (2, 48, 0), some (0, 0, a1)] [(0, 0, b0)] σ := fw_on hG [7, 28, 44, 55, 75, 85, 108, 115] 200 h
theorem fs_readDare_108 {G : fw_K} {R : fw_KR} (hG : fw_cls st_readDare R G) {a1 : Int} {σ : ab_SG} (h : sp_step [(2, 1, 0)] σ (fun rv σ2 => G 115 [some (2, 48, 0), some (0, 0, a1)] (rv.toList ++ []) σ2)) : G 108 [some (2, 48, 0), some (0, 0, a1)] [] σ := fw_on hG [7, 28, 44, 55, 75, 85, 108, 115] 200 h
theorem fs_readDare_115 {G : fw_K} {R : fw_KR} (hG : fw_cls st_readDare R G) {a1 : Int} {σ : ab_SG} (h : (0 ≤ fw_c 1 ∧ fw_c 1 ≤ 1) ∧ R (some (0, 0, 1)) σ) : G 115 [some (2, 48, 0), some (0, 0, a1)] [] σ := fw_on hG [7, 28, 44, 55, 75, 85, 108, 115] 200 h
abbrev fk_readFrom : List fw_CR := [(107, 1, true, 8, 0, sp_refuse), (113, 0, true, 8, 2, sp_step), (144, 2, true, 8, 1, sp_needNumber)]
abbrev st_readFrom : fw_K → fw_KR → fw_K := fw_st vwCl nn_sh nn_kd fw_kv fw_wc (nn_KI3.map (fun x => x.1)) (nn_KJ3.map (fun x => x.1)) (nn_PF3.map (fun x => x.1)) (nn_PS3.map (fun x => x.1)) fk_readFrom 4 nn_dt39 1 1
theorem fs_readFrom_0 {G : fw_K} {R : fw_KR} (hG : fw_cls st_readFrom R G) {σ : ab_SG} (h : (fw_c (σ 48 4) = 0 → (0 ≤ fw_c 1 ∧ fw_c 1 ≤ 1) ∧ (sp_step [(2, 1, 0)] (ab_ups σ 48 4 (fw_c 1)) (fun rv σ2 => G 28 [some (2, 48, 0)] (rv.toList ++ []) σ2))) ∧ (fw_c (σ 48 4) ≠ 0 → sp_refuse [(2, 1, 0), (0, 0, 3)] σ (fun rv σ2 => G 15 [some (2, 48, 0)] (rv.toList ++ []) σ2))) : G 0 [some (2, 48, 0)] [] σ := fw_on hG [15, 28, 38, 64] 200 h
theorem fs_readFrom_28 {G : fw_K} {R : fw_KR} (hG : fw_cls st_readFrom R G) {σ : ab_SG} (h : sp_needNumber [(2, 1, 0), (0, 0, 1), (0, 0, 9)] σ (fun rv σ2 => G 38 [some (2, 48, 0)] (rv.toList ++ []) σ2)) : G 28 [some (2, 48, 0)] [] σ := fw_on hG [15, 28, 38, 64] 200 h
theorem fs_readFrom_15 {G : fw_K} {R : fw_KR} (hG : fw_cls st_readFrom R G) {b0 : Int} {σ : ab_SG} (h : (0 ≤ fw_c b0 ∧ fw_c b0 ≤ 1) ∧ R (some (0, 0, b0)) σ) : G 15 [some (2, 48, 0)] [(0, 0, b0)] σ := fw_on hG [15, 28, 38, 64] 200 h
theorem fs_readFrom_38 {G : fw_K} {R : fw_KR} (hG : fw_cls st_readFrom R G) {b0 : Int} {σ : ab_SG} (h : (fw_c b0 ≠ 0 → sp_step [(2, 1, 0)] (ab_ups σ 49 14 (fw_c (σ 1 8))) (fun rv σ2 => G 64 [some (2, 48, 0)] (rv.toList ++ []) σ2)) ∧ (fw_c b0 = 0 → (0 ≤ fw_c 0 ∧ fw_c 0 ≤ 1) ∧ R (some (0, 0, 0)) σ)) : G 38 [some (2, 48, 0)] [(0, 0, b0)] σ := fw_on hG [15, 28, 38, 64] 200 h
theorem fs_readFrom_64 {G : fw_K} {R : fw_KR} (hG : fw_cls st_readFrom R G) {σ : ab_SG} (h : (0 ≤ fw_c 1 ∧ fw_c 1 ≤ 1) ∧ R (some (0, 0, 1)) σ) : G 64 [some (2, 48, 0)] [] σ := fw_on hG [15, 28, 38, 64] 200 h
abbrev fk_readLine : List fw_CR := [(70, 1, true, 8, 0, sp_isWord), (74, 0, true, 7, 5, sp_readTune), (80, 0, true, 7, 5, sp_readClue), (86, 0, true, 7, 4, sp_readPerson), (92, 0, true, 7, 4, sp_readKnows), (98, 0, true, 7, 4, sp_readDare), (104, 0, true, 7, 4, sp_readFrom), (107, 1, true, 8, 0, sp_refuse)]
abbrev st_readLine : fw_K → fw_KR → fw_K := fw_st vwCl nn_sh nn_kd fw_kv fw_wc (nn_KI3.map (fun x => x.1)) (nn_KJ3.map (fun x => x.1)) (nn_PF3.map (fun x => x.1)) (nn_PS3.map (fun x => x.1)) fk_readLine 6 nn_dt19 1 1
theorem fs_readLine_0 {G : fw_K} {R : fw_KR} (hG : fw_cls st_readLine R G) {σ : ab_SG} (h : sp_isWord [(2, 1, 0), (4, 0, 0)] σ (fun rv σ2 => G 10 [some (2, 48, 0)] (rv.toList ++ []) σ2)) : G 0 [some (2, 48, 0)] [] σ := fw_on hG [10, 17, 28, 35, 46, 53, 64, 71, 82, 89, 100, 107, 118] 200 h
theorem fs_readLine_10 {G : fw_K} {R : fw_KR} (hG : fw_cls st_readLine R G) {b0 : Int} {σ : ab_SG} (h : (fw_c b0 = 0 → sp_isWord [(2, 1, 0), (4, 0, 1)] σ (fun rv σ2 => G 28 [some (2, 48, 0)] (rv.toList ++ []) σ2)) ∧ (fw_c b0 ≠ 0 → sp_readTune [(2, 48, 0)] σ (fun rv σ2 => G 17 [some (2, 48, 0)] (rv.toList ++ []) σ2))) : G 10 [some (2, 48, 0)] [(0, 0, b0)] σ := fw_on hG [10, 17, 28, 35, 46, 53, 64, 71, 82, 89, 100, 107, 118] 200 h
theorem fs_readLine_28 {G : fw_K} {R : fw_KR} (hG : fw_cls st_readLine R G) {b0 : Int} {σ : ab_SG} (h : (fw_c b0 = 0 → sp_isWord [(2, 1, 0), (4, 0, 2)] σ (fun rv σ2 => G 46 [some (2, 48, 0)] (rv.toList ++ []) σ2)) ∧ (fw_c b0 ≠ 0 → sp_readClue [(2, 48, 0)] σ (fun rv σ2 => G 35 [some (2, 48, 0)] (rv.toList ++ []) σ2))) : G 28 [some (2, 48, 0)] [(0, 0, b0)] σ := fw_on hG [10, 17, 28, 35, 46, 53, 64, 71, 82, 89, 100, 107, 118] 200 h
theorem fs_readLine_17 {G : fw_K} {R : fw_KR} (hG : fw_cls st_readLine R G) {b0 : Int} {σ : ab_SG} (h : (0 ≤ fw_c b0 ∧ fw_c b0 ≤ 1) ∧ R (some (0, 0, b0)) σ) : G 17 [some (2, 48, 0)] [(0, 0, b0)] σ := fw_on hG [10, 17, 28, 35, 46, 53, 64, 71, 82, 89, 100, 107, 118] 200 h
theorem fs_readLine_46 {G : fw_K} {R : fw_KR} (hG : fw_cls st_readLine R G) {b0 : Int} {σ : ab_SG} (h : (fw_c b0 = 0 → sp_isWord [(2, 1, 0), (4, 0, 3)] σ (fun rv σ2 => G 64 [some (2, 48, 0)] (rv.toList ++ []) σ2)) ∧ (fw_c b0 ≠ 0 → sp_readPerson [(2, 48, 0)] σ (fun rv σ2 => G 53 [some (2, 48, 0)] (rv.toList ++ []) σ2))) : G 46 [some (2, 48, 0)] [(0, 0, b0)] σ := fw_on hG [10, 17, 28, 35, 46, 53, 64, 71, 82, 89, 100, 107, 118] 200 h
theorem fs_readLine_35 {G : fw_K} {R : fw_KR} (hG : fw_cls st_readLine R G) {b0 : Int} {σ : ab_SG} (h : (0 ≤ fw_c b0 ∧ fw_c b0 ≤ 1) ∧ R (some (0, 0, b0)) σ) : G 35 [some (2, 48, 0)] [(0, 0, b0)] σ := fw_on hG [10, 17, 28, 35, 46, 53, 64, 71, 82, 89, 100, 107, 118] 200 h
theorem fs_readLine_64 {G : fw_K} {R : fw_KR} (hG : fw_cls st_readLine R G) {b0 : Int} {σ : ab_SG} (h : (fw_c b0 = 0 → sp_isWord [(2, 1, 0), (4, 0, 4)] σ (fun rv σ2 => G 82 [some (2, 48, 0)] (rv.toList ++ []) σ2)) ∧ (fw_c b0 ≠ 0 → sp_readKnows [(2, 48, 0)] σ (fun rv σ2 => G 71 [some (2, 48, 0)] (rv.toList ++ []) σ2))) : G 64 [some (2, 48, 0)] [(0, 0, b0)] σ := fw_on hG [10, 17, 28, 35, 46, 53, 64, 71, 82, 89, 100, 107, 118] 200 h
theorem fs_readLine_53 {G : fw_K} {R : fw_KR} (hG : fw_cls st_readLine R G) {b0 : Int} {σ : ab_SG} (h : (0 ≤ fw_c b0 ∧ fw_c b0 ≤ 1) ∧ R (some (0, 0, b0)) σ) : G 53 [some (2, 48, 0)] [(0, 0, b0)] σ := fw_on hG [10, 17, 28, 35, 46, 53, 64, 71, 82, 89, 100, 107, 118] 200 h
theorem fs_readLine_82 {G : fw_K} {R : fw_KR} (hG : fw_cls st_readLine R G) {b0 : Int} {σ : ab_SG} (h : (fw_c b0 = 0 → sp_isWord [(2, 1, 0), (4, 0, 5)] σ (fun rv σ2 => G 100 [some (2, 48, 0)] (rv.toList ++ []) σ2)) ∧ (fw_c b0 ≠ 0 → sp_readDare [(2, 48, 0)] σ (fun rv σ2 => G 89 [some (2, 48, 0)] (rv.toList ++ []) σ2))) : G 82 [some (2, 48, 0)] [(0, 0, b0)] σ := fw_on hG [10, 17, 28, 35, 46, 53, 64, 71, 82, 89, 100, 107, 118] 200 h
theorem fs_readLine_71 {G : fw_K} {R : fw_KR} (hG : fw_cls st_readLine R G) {b0 : Int} {σ : ab_SG} (h : (0 ≤ fw_c b0 ∧ fw_c b0 ≤ 1) ∧ R (some (0, 0, b0)) σ) : G 71 [some (2, 48, 0)] [(0, 0, b0)] σ := fw_on hG [10, 17, 28, 35, 46, 53, 64, 71, 82, 89, 100, 107, 118] 200 h
theorem fs_readLine_100 {G : fw_K} {R : fw_KR} (hG : fw_cls st_readLine R G) {b0 : Int} {σ : ab_SG} (h : (fw_c b0 = 0 → sp_refuse [(2, 1, 0), (0, 0, 1)] σ (fun rv σ2 => G 118 [some (2, 48, 0)] (rv.toList ++ []) σ2)) ∧ (fw_c b0 ≠ 0 → sp_readFrom [(2, 48, 0)] σ (fun rv σ2 => G 107 [some (2, 48, 0)] (rv.toList ++ []) σ2))) : G 100 [some (2, 48, 0)] [(0, 0, b0)] σ := fw_on hG [10, 17, 28, 35, 46, 53, 64, 71, 82, 89, 100, 107, 118] 200 h
theorem fs_readLine_89 {G : fw_K} {R : fw_KR} (hG : fw_cls st_readLine R G) {b0 : Int} {σ : ab_SG} (h : (0 ≤ fw_c b0 ∧ fw_c b0 ≤ 1) ∧ R (some (0, 0, b0)) σ) : G 89 [some (2, 48, 0)] [(0, 0, b0)] σ := fw_on hG [10, 17, 28, 35, 46, 53, 64, 71, 82, 89, 100, 107, 118] 200 h
theorem fs_readLine_118 {G : fw_K} {R : fw_KR} (hG : fw_cls st_readLine R G) {b0 : Int} {σ : ab_SG} (h : (0 ≤ fw_c b0 ∧ fw_c b0 ≤ 1) ∧ R (some (0, 0, b0)) σ) : G 118 [some (2, 48, 0)] [(0, 0, b0)] σ := fw_on hG [10, 17, 28, 35, 46, 53, 64, 71, 82, 89, 100, 107, 118] 200 h
theorem fs_readLine_107 {G : fw_K} {R : fw_KR} (hG : fw_cls st_readLine R G) {b0 : Int} {σ : ab_SG} (h : G 118 [some (2, 48, 0)] [(0, 0, b0)] σ) : G 107 [some (2, 48, 0)] [(0, 0, b0)] σ := fw_on hG [10, 17, 28, 35, 46, 53, 64, 71, 82, 89, 100, 107, 118] 200 h
theorem tn9_loop {G : fw_K} {K : fw_KR} (hG : fw_cls st_readTune K G) {x : Int} (hx : 0 ≤ x ∧ x < 9) {σ0 : ab_SG} {e : tk_E} : ∀ (f i : Nat) (σ A : ab_SG) (p : Nat), i + f = 9 → ab_okM rd_M σ0 σ → RD σ A e p → ((pr_notes e x f A p).1 ≠ 0 → rd_no σ0 (pr_notes e x f A p).1 K 0) →
    ((pr_notes e x f A p).1 = 0 → ∀ σ' : ab_SG, ab_okM rd_M σ0 σ' → RD σ' (pr_notes e x f A p).2.1 e (pr_notes e x f A p).2.2 → K (some (0, 0, 1)) σ') → G 97 [some (2, 48, 0), some (0, 0, x), some (0, 0, 1), some (0, 0, (i : Int))] [] σ := by
  intro f
  have z9 : fw_c 9 = 9 := fw_c_id (by decide) (by decide)
  have zk : fw_c 3 = 3 := fw_c_id (by decide) (by decide)
  induction f with
  | zero =>
    intro i σ A p hi hM h h0 h1
    have ei : fw_c (i : Int) = i := fw_c_id (by omega) (by omega)
    refine fs_readTune_97 hG ?_
    rw [z9, ei]
    exact ⟨fun _ => ⟨fw_11, h1 rfl σ hM h⟩, fun q => absurd q (by omega)⟩
  | succ f ih =>
    intro i σ A p hi hM h h0 h1
    have ei : fw_c (i : Int) = i := fw_c_id (by omega) (by omega)
    unfold pr_notes at h0 h1
    refine fs_readTune_97 hG ?_
    rw [z9, ei, h.kind.2, zk]
    refine ⟨fun q => absurd q (by omega), fun _ => ⟨fun q => absurd (fw_c1.symm.trans q) (by decide), fun _ => ⟨fun q => ⟨fw_11, ?_⟩, fun q => ?_⟩⟩⟩
    · rw [if_pos q] at h1
      exact h1 rfl σ hM h
    · rw [if_neg (fun y => y q)] at h0 h1
      refine ⟨x, A, e, p, rfl, h, hx, fun q2 => ?_, fun q2 => ?_⟩
      · rw [if_pos q2] at h0
        refine fun σ' a b => fs_readTune_123 hG (fs_readTune_97 hG ⟨fun _ => ⟨fw_01, h0 q2 σ' (fw_okM_tr hM a (by decide)) b⟩, fun _ => ⟨fun _ => ⟨fw_01, h0 q2 σ' (fw_okM_tr hM a (by decide)) b⟩, fun y => absurd fw_c0 y⟩⟩)
      · rw [if_neg (fun y => y q2)] at h0 h1
        exact fun σ' a b => fs_readTune_123 hG (ih (i + 1) σ' _ _ (by omega) (fw_okM_tr hM a (by decide)) b h0 h1)
section
variable {l : Launch} {cy : Nat → ClassId} {ad wr cr : Nat → Nat} {D : va_G}
theorem fm_readTune (hinj : nn_inj ad) : fw_H l cy ad wr cr D 21 5 sp_readTune := fw_mk hinj (⟨"NameNotes$StudioReader", "readTune", "()Z"⟩, prog_9_method_4_code, 4, (Option.some Jvm.ClassFile.FieldType.boolean), 0, true, 1) rfl rfl nn_KI3_ok nn_KJ3_ok nn_PF3_ok nn_PS3_ok (by decide +kernel) rfl rfl (List.forall_mem_cons.mpr ⟨fw_row nn_PM3_ok (x := 107) (k := 0) (mn := 22) (np := 1) (ob := true) (ci := 8) (⟨"NameNotes$Tape", "refuse", "(I)Z"⟩, prog_10_method_14_code, 2, (Option.some Jvm.ClassFile.FieldType.boolean), 1, true, 1) rfl (by decide +kernel) rfl rfl (by decide) (fun _ => ⟨_, _, rfl⟩) (fm_refuse hinj), (List.forall_mem_cons.mpr ⟨fw_row nn_PM3_ok (x := 113) (k := 0) (mn := 10) (np := 0) (ob := true) (ci := 8) (⟨"NameNotes$Tape", "step", "()V"⟩, prog_10_method_5_code, 2, (Option.none : Option Jvm.ClassFile.FieldType), 0, true, 4) rfl (by decide +kernel) rfl rfl (by decide) (fun _ => ⟨_, _, rfl⟩) (fm_step hinj), (List.forall_mem_cons.mpr ⟨fw_row nn_PM3_ok (x := 116) (k := 0) (mn := 23) (np := 0) (ob := true) (ci := 7) (⟨"NameNotes$StudioReader", "isNewName", "()Z"⟩, prog_9_method_12_code, 2, (Option.some Jvm.ClassFile.FieldType.boolean), 0, true, 1) rfl (by decide +kernel) rfl rfl (by decide) (fun _ => ⟨_, _, rfl⟩) (fm_isNewName hinj), (List.forall_mem_cons.mpr ⟨fw_row nn_PM3_ok (x := 127) (k := 2) (mn := 26) (np := 3) (ob := false) (ci := 0) (⟨"NameNotes", "put", "([JIJ)V"⟩, prog_1_method_87_code, 4, (Option.none : Option Jvm.ClassFile.FieldType), 3, false, 4) rfl (by decide +kernel) rfl rfl (by decide) (fun q => by cases q) (fm_putl hinj), (List.forall_mem_cons.mpr ⟨fw_row nn_PM3_ok (x := 134) (k := 2) (mn := 27) (np := 3) (ob := false) (ci := 0) (⟨"NameNotes", "put", "([III)V"⟩, prog_1_method_86_code, 3, (Option.none : Option Jvm.ClassFile.FieldType), 3, false, 4) rfl (by decide +kernel) rfl rfl (by decide) (fun q => by cases q) (fm_put hinj), (List.forall_mem_cons.mpr ⟨fw_row nn_PM3_ok (x := 137) (k := 0) (mn := 28) (np := 1) (ob := true) (ci := 7) (⟨"NameNotes$StudioReader", "readNote", "(I)Z"⟩, prog_9_method_5_code, 3, (Option.some Jvm.ClassFile.FieldType.boolean), 1, true, 1) rfl (by decide +kernel) rfl rfl (by decide) (fun _ => ⟨_, _, rfl⟩) (fm_readNote hinj), (fun _ h => absurd h List.not_mem_nil)⟩)⟩)⟩)⟩)⟩)⟩) (fun as σ K h => by
  obtain ⟨A, e, p, rfl, h, h0, h1⟩ := h
  have hi := h.2.1
  have b1 : σ 49 11 = A 49 11 := h.pl rfl
  have zm : fw_c 9 = 9 := fw_c_id (by decide) (by decide)
  have z4 : fw_c 4 = 4 := fw_c_id (by decide) (by decide)
  have ea : fw_c (A 49 11) = A 49 11 := fw_c_id (by omega) (by omega)
  unfold pr_tune at h0 h1
  refine ⟨rfl, fun G hG => fs_readTune_0 hG ?_⟩
  rw [b1, ea, zm]
  refine ⟨fun q => ?_, fun q => ⟨_, rfl, fs_readTune_22 hG ⟨fw_01, ?_⟩⟩⟩
  · rw [if_neg (show ¬ 9 ≤ A 49 11 by omega)] at h0 h1
    refine ⟨rfl, h.st.1, fun σ2 M2 S2 => fs_readTune_30 hG ?_⟩
    have H2 := h.st.2 σ2 M2 S2
    have N2 : ab_okM rd_M σ σ2 := fw_okM_tr (fw_okM_refl _ _) M2 (by decide)
    refine ⟨A, e, tn e p, rfl, H2, fun q2 => ?_, fun q2 qk => fs_readTune_34 hG ⟨fun _ => ?_, fun y => absurd (fw_c1.symm.trans y) (by decide)⟩⟩
    · rw [if_pos q2] at h0
      exact fun σ' a b => fs_readTune_34 hG ⟨fun y => absurd fw_c0 y, fun _ => ⟨fw_01, h0 q2 σ' (fw_okM_tr N2 a (by decide)) b⟩⟩
    · rw [if_neg (fun y => y q2)] at h0 h1
      have hw := H2.word qk
      generalize hx : A 49 11 = x at h0 h1 q ea hi ⊢
      have hx0 : 0 ≤ x ∧ x < 9 := by rw [← hx]; omega
      refine ⟨(57, 9), by decide, _, _, rfl, fun _ => fs_readTune_57 hG ?_, fun y => absurd (by rw [ea]; show 0 ≤ x ∧ x < 9; exact hx0) y⟩
      rw [ea, hw.2, hw.1]
      have dw : fw_d (pr_wd e (tn e p)) = pr_wd e (tn e p) := by rw [← hw.1]; exact hw.2
      have I3 : RI (ab_ups A 57 x.toNat (pr_wd e (tn e p))) := ⟨H2.2.1.1, H2.2.1.2.1, H2.2.1.2.2.1, (fun j hj => by
        by_cases ej : j = x.toNat
        · rw [ej, ab_ups_eq]; exact dw
        · rw [ab_ups_ne (fun y => ej y.2)]; exact H2.2.1.2.2.2.1 j hj), H2.2.1.2.2.2.2.1, H2.2.1.2.2.2.2.2.1, H2.2.1.2.2.2.2.2.2.1, H2.2.1.2.2.2.2.2.2.2⟩
      have H3 := H2.ups (k := 57) (j := x.toNat) (v := pr_wd e (tn e p)) (by decide) I3
      have M3 : ab_okM rd_M σ (ab_ups σ2 57 x.toNat (pr_wd e (tn e p))) := fw_okM_upa N2 (by decide)
      generalize ab_ups σ2 57 x.toNat (pr_wd e (tn e p)) = σ3 at H3 M3 ⊢
      refine ⟨(52, 9), by decide, _, _, rfl, fun _ => fs_readTune_69 hG ?_, fun y => absurd (by rw [ea]; show 0 ≤ x ∧ x < 9; exact hx0) y⟩
      rw [ea, fw_c0]
      have I4 : RI (ab_ups (ab_ups A 57 x.toNat (pr_wd e (tn e p))) 52 x.toNat 0) := ⟨I3.1, I3.2.1, I3.2.2.1, I3.2.2.2.1, I3.2.2.2.2.1, I3.2.2.2.2.2.1, (fun j hj => by
        by_cases ej : j = x.toNat
        · rw [ej, ab_ups_eq]; decide
        · rw [ab_ups_ne (fun y => ej y.2)]; exact I3.2.2.2.2.2.2.1 j hj), I3.2.2.2.2.2.2.2⟩
      have H4 := H3.ups (k := 52) (j := x.toNat) (v := 0) (by decide) I4
      have M4 : ab_okM rd_M σ (ab_ups σ3 52 x.toNat 0) := fw_okM_upa M3 (by decide)
      generalize ab_ups σ3 52 x.toNat 0 = σ4 at H4 M4 ⊢
      have b4 : σ4 49 11 = x := by rw [H4.pl (k := 49) (j := 11) rfl, ab_ups_ne (fun z => absurd z.1 (by decide)), ab_ups_ne (fun z => absurd z.1 (by decide))]; exact hx
      have e1 : fw_c (x + 1) = x + 1 := fw_c_id (by omega) (by omega)
      rw [b4, e1]
      have I5 : RI (ab_ups (ab_ups (ab_ups A 57 x.toNat (pr_wd e (tn e p))) 52 x.toNat 0) 49 11 (x + 1)) := ⟨(by rw [ab_ups_eq]; omega), I4.2.1, I4.2.2.1, I4.2.2.2.1, I4.2.2.2.2.1, I4.2.2.2.2.2.1, I4.2.2.2.2.2.2.1, I4.2.2.2.2.2.2.2⟩
      have H5 := H4.ups (k := 49) (j := 11) (v := x + 1) (by decide) I5
      have M5 : ab_okM rd_M σ (ab_ups σ4 49 11 (x + 1)) := fw_okM_ups M4 (by decide)
      generalize ab_ups σ4 49 11 (x + 1) = σ5 at H5 M5 ⊢
      refine ⟨rfl, H5.st.1, fun σ6 M6 S6 => fs_readTune_89 hG ?_⟩
      have H6 := H5.st.2 σ6 M6 S6
      have N6 : ab_okM rd_M σ σ6 := fw_okM_tr M5 M6 (by decide)
      dsimp only at h0 h1
      refine ⟨x, _, e, _, rfl, H6, hx0, fun q3 => ?_, fun q3 => ?_⟩
      · rw [if_pos q3] at h0
        exact fun σ' a b => fs_readTune_94 hG (fs_readTune_97 hG ⟨fun _ => ⟨fw_01, h0 q3 σ' (fw_okM_tr N6 a (by decide)) b⟩, fun _ => ⟨fun _ => ⟨fw_01, h0 q3 σ' (fw_okM_tr N6 a (by decide)) b⟩, fun y => absurd fw_c0 y⟩⟩)
      · rw [if_neg (fun y => y q3)] at h0 h1
        exact fun σ' a b => fs_readTune_94 hG (tn9_loop hG hx0 9 0 σ' _ _ rfl (fw_okM_tr N6 a (by decide)) b h0 h1)
  · rw [if_pos q] at h0
    exact h0 (by first | decide | (dsimp only; decide)) _ (tp_rf_M 4) (by rw [tp_rf_9, z4]))
end
theorem cl9_loop {G : fw_K} {K : fw_KR} (hG : fw_cls st_readClue K G) {x : Int} (hx : 0 ≤ x ∧ x < 6) {σ0 : ab_SG} {e : tk_E} : ∀ (f i : Nat) (σ A : ab_SG) (p : Nat), i + f = 9 → ab_okM rd_M σ0 σ → RD σ A e p → ((pr_lefts e x f A p).1 ≠ 0 → rd_no σ0 (pr_lefts e x f A p).1 K 0) →
    ((pr_lefts e x f A p).1 = 0 → ∀ σ' : ab_SG, ab_okM rd_M σ0 σ' → RD σ' (pr_lefts e x f A p).2.1 e (pr_lefts e x f A p).2.2 → K (some (0, 0, 1)) σ') → G 97 [some (2, 48, 0), some (0, 0, x), some (0, 0, 1), some (0, 0, (i : Int))] [] σ := by
  intro f
  have z9 : fw_c 9 = 9 := fw_c_id (by decide) (by decide)
  have zk : fw_c 2 = 2 := fw_c_id (by decide) (by decide)
  induction f with
  | zero =>
    intro i σ A p hi hM h h0 h1
    have ei : fw_c (i : Int) = i := fw_c_id (by omega) (by omega)
    refine fs_readClue_97 hG ?_
    rw [z9, ei]
    exact ⟨fun _ => ⟨fw_11, h1 rfl σ hM h⟩, fun q => absurd q (by omega)⟩
  | succ f ih =>
    intro i σ A p hi hM h h0 h1
    have ei : fw_c (i : Int) = i := fw_c_id (by omega) (by omega)
    unfold pr_lefts at h0 h1
    refine fs_readClue_97 hG ?_
    rw [z9, ei, h.kind.2, zk]
    refine ⟨fun q => absurd q (by omega), fun _ => ⟨fun q => absurd (fw_c1.symm.trans q) (by decide), fun _ => ⟨fun q => ⟨fw_11, ?_⟩, fun q => ?_⟩⟩⟩
    · rw [if_pos q] at h1
      exact h1 rfl σ hM h
    · rw [if_neg (fun y => y q)] at h0 h1
      refine ⟨x, A, e, p, rfl, h, hx, fun q2 => ?_, fun q2 => ?_⟩
      · rw [if_pos q2] at h0
        refine fun σ' a b => fs_readClue_123 hG (fs_readClue_97 hG ⟨fun _ => ⟨fw_01, h0 q2 σ' (fw_okM_tr hM a (by decide)) b⟩, fun _ => ⟨fun _ => ⟨fw_01, h0 q2 σ' (fw_okM_tr hM a (by decide)) b⟩, fun y => absurd fw_c0 y⟩⟩)
      · rw [if_neg (fun y => y q2)] at h0 h1
        exact fun σ' a b => fs_readClue_123 hG (ih (i + 1) σ' _ _ (by omega) (fw_okM_tr hM a (by decide)) b h0 h1)
section
variable {l : Launch} {cy : Nat → ClassId} {ad wr cr : Nat → Nat} {D : va_G}
theorem fm_readClue (hinj : nn_inj ad) : fw_H l cy ad wr cr D 31 5 sp_readClue := fw_mk hinj (⟨"NameNotes$StudioReader", "readClue", "()Z"⟩, prog_9_method_6_code, 4, (Option.some Jvm.ClassFile.FieldType.boolean), 0, true, 1) rfl rfl nn_KI3_ok nn_KJ3_ok nn_PF3_ok nn_PS3_ok (by decide +kernel) rfl rfl (List.forall_mem_cons.mpr ⟨fw_row nn_PM3_ok (x := 107) (k := 0) (mn := 22) (np := 1) (ob := true) (ci := 8) (⟨"NameNotes$Tape", "refuse", "(I)Z"⟩, prog_10_method_14_code, 2, (Option.some Jvm.ClassFile.FieldType.boolean), 1, true, 1) rfl (by decide +kernel) rfl rfl (by decide) (fun _ => ⟨_, _, rfl⟩) (fm_refuse hinj), (List.forall_mem_cons.mpr ⟨fw_row nn_PM3_ok (x := 113) (k := 0) (mn := 10) (np := 0) (ob := true) (ci := 8) (⟨"NameNotes$Tape", "step", "()V"⟩, prog_10_method_5_code, 2, (Option.none : Option Jvm.ClassFile.FieldType), 0, true, 4) rfl (by decide +kernel) rfl rfl (by decide) (fun _ => ⟨_, _, rfl⟩) (fm_step hinj), (List.forall_mem_cons.mpr ⟨fw_row nn_PM3_ok (x := 116) (k := 0) (mn := 23) (np := 0) (ob := true) (ci := 7) (⟨"NameNotes$StudioReader", "isNewName", "()Z"⟩, prog_9_method_12_code, 2, (Option.some Jvm.ClassFile.FieldType.boolean), 0, true, 1) rfl (by decide +kernel) rfl rfl (by decide) (fun _ => ⟨_, _, rfl⟩) (fm_isNewName hinj), (List.forall_mem_cons.mpr ⟨fw_row nn_PM3_ok (x := 127) (k := 2) (mn := 26) (np := 3) (ob := false) (ci := 0) (⟨"NameNotes", "put", "([JIJ)V"⟩, prog_1_method_87_code, 4, (Option.none : Option Jvm.ClassFile.FieldType), 3, false, 4) rfl (by decide +kernel) rfl rfl (by decide) (fun q => by cases q) (fm_putl hinj), (List.forall_mem_cons.mpr ⟨fw_row nn_PM3_ok (x := 134) (k := 2) (mn := 27) (np := 3) (ob := false) (ci := 0) (⟨"NameNotes", "put", "([III)V"⟩, prog_1_method_86_code, 3, (Option.none : Option Jvm.ClassFile.FieldType), 3, false, 4) rfl (by decide +kernel) rfl rfl (by decide) (fun q => by cases q) (fm_put hinj), (List.forall_mem_cons.mpr ⟨fw_row nn_PM3_ok (x := 166) (k := 0) (mn := 32) (np := 1) (ob := true) (ci := 7) (⟨"NameNotes$StudioReader", "readLeft", "(I)Z"⟩, prog_9_method_7_code, 4, (Option.some Jvm.ClassFile.FieldType.boolean), 1, true, 1) rfl (by decide +kernel) rfl rfl (by decide) (fun _ => ⟨_, _, rfl⟩) (fm_readLeft hinj), (fun _ h => absurd h List.not_mem_nil)⟩)⟩)⟩)⟩)⟩)⟩) (fun as σ K h => by
  obtain ⟨A, e, p, rfl, h, h0, h1⟩ := h
  have hi := h.2.1
  have b1 : σ 49 12 = A 49 12 := h.pl rfl
  have zm : fw_c 6 = 6 := fw_c_id (by decide) (by decide)
  have z4 : fw_c 4 = 4 := fw_c_id (by decide) (by decide)
  have ea : fw_c (A 49 12) = A 49 12 := fw_c_id (by omega) (by omega)
  unfold pr_clue at h0 h1
  refine ⟨rfl, fun G hG => fs_readClue_0 hG ?_⟩
  rw [b1, ea, zm]
  refine ⟨fun q => ?_, fun q => ⟨_, rfl, fs_readClue_22 hG ⟨fw_01, ?_⟩⟩⟩
  · rw [if_neg (show ¬ 6 ≤ A 49 12 by omega)] at h0 h1
    refine ⟨rfl, h.st.1, fun σ2 M2 S2 => fs_readClue_30 hG ?_⟩
    have H2 := h.st.2 σ2 M2 S2
    have N2 : ab_okM rd_M σ σ2 := fw_okM_tr (fw_okM_refl _ _) M2 (by decide)
    refine ⟨A, e, tn e p, rfl, H2, fun q2 => ?_, fun q2 qk => fs_readClue_34 hG ⟨fun _ => ?_, fun y => absurd (fw_c1.symm.trans y) (by decide)⟩⟩
    · rw [if_pos q2] at h0
      exact fun σ' a b => fs_readClue_34 hG ⟨fun y => absurd fw_c0 y, fun _ => ⟨fw_01, h0 q2 σ' (fw_okM_tr N2 a (by decide)) b⟩⟩
    · rw [if_neg (fun y => y q2)] at h0 h1
      have hw := H2.word qk
      generalize hx : A 49 12 = x at h0 h1 q ea hi ⊢
      have hx0 : 0 ≤ x ∧ x < 6 := by rw [← hx]; omega
      refine ⟨(58, 6), by decide, _, _, rfl, fun _ => fs_readClue_57 hG ?_, fun y => absurd (by rw [ea]; show 0 ≤ x ∧ x < 6; exact hx0) y⟩
      rw [ea, hw.2, hw.1]
      have dw : fw_d (pr_wd e (tn e p)) = pr_wd e (tn e p) := by rw [← hw.1]; exact hw.2
      have I3 : RI (ab_ups A 58 x.toNat (pr_wd e (tn e p))) := ⟨H2.2.1.1, H2.2.1.2.1, H2.2.1.2.2.1, H2.2.1.2.2.2.1, (fun j hj => by
        by_cases ej : j = x.toNat
        · rw [ej, ab_ups_eq]; exact dw
        · rw [ab_ups_ne (fun y => ej y.2)]; exact H2.2.1.2.2.2.2.1 j hj), H2.2.1.2.2.2.2.2.1, H2.2.1.2.2.2.2.2.2.1, H2.2.1.2.2.2.2.2.2.2⟩
      have H3 := H2.ups (k := 58) (j := x.toNat) (v := pr_wd e (tn e p)) (by decide) I3
      have M3 : ab_okM rd_M σ (ab_ups σ2 58 x.toNat (pr_wd e (tn e p))) := fw_okM_upa N2 (by decide)
      generalize ab_ups σ2 58 x.toNat (pr_wd e (tn e p)) = σ3 at H3 M3 ⊢
      refine ⟨(54, 6), by decide, _, _, rfl, fun _ => fs_readClue_69 hG ?_, fun y => absurd (by rw [ea]; show 0 ≤ x ∧ x < 6; exact hx0) y⟩
      rw [ea, fw_c0]
      have I4 : RI (ab_ups (ab_ups A 58 x.toNat (pr_wd e (tn e p))) 54 x.toNat 0) := I3
      have H4 := H3.ups (k := 54) (j := x.toNat) (v := 0) (by decide) I4
      have M4 : ab_okM rd_M σ (ab_ups σ3 54 x.toNat 0) := fw_okM_upa M3 (by decide)
      generalize ab_ups σ3 54 x.toNat 0 = σ4 at H4 M4 ⊢
      have b4 : σ4 49 12 = x := by rw [H4.pl (k := 49) (j := 12) rfl, ab_ups_ne (fun z => absurd z.1 (by decide)), ab_ups_ne (fun z => absurd z.1 (by decide))]; exact hx
      have e1 : fw_c (x + 1) = x + 1 := fw_c_id (by omega) (by omega)
      rw [b4, e1]
      have I5 : RI (ab_ups (ab_ups (ab_ups A 58 x.toNat (pr_wd e (tn e p))) 54 x.toNat 0) 49 12 (x + 1)) := ⟨I4.1, (by rw [ab_ups_eq]; omega), I4.2.2.1, I4.2.2.2.1, I4.2.2.2.2.1, I4.2.2.2.2.2.1, I4.2.2.2.2.2.2.1, I4.2.2.2.2.2.2.2⟩
      have H5 := H4.ups (k := 49) (j := 12) (v := x + 1) (by decide) I5
      have M5 : ab_okM rd_M σ (ab_ups σ4 49 12 (x + 1)) := fw_okM_ups M4 (by decide)
      generalize ab_ups σ4 49 12 (x + 1) = σ5 at H5 M5 ⊢
      refine ⟨rfl, H5.st.1, fun σ6 M6 S6 => fs_readClue_89 hG ?_⟩
      have H6 := H5.st.2 σ6 M6 S6
      have N6 : ab_okM rd_M σ σ6 := fw_okM_tr M5 M6 (by decide)
      dsimp only at h0 h1
      refine ⟨x, _, e, _, rfl, H6, hx0, fun q3 => ?_, fun q3 => ?_⟩
      · rw [if_pos q3] at h0
        exact fun σ' a b => fs_readClue_94 hG (fs_readClue_97 hG ⟨fun _ => ⟨fw_01, h0 q3 σ' (fw_okM_tr N6 a (by decide)) b⟩, fun _ => ⟨fun _ => ⟨fw_01, h0 q3 σ' (fw_okM_tr N6 a (by decide)) b⟩, fun y => absurd fw_c0 y⟩⟩)
      · rw [if_neg (fun y => y q3)] at h0 h1
        exact fun σ' a b => fs_readClue_94 hG (cl9_loop hG hx0 9 0 σ' _ _ rfl (fw_okM_tr N6 a (by decide)) b h0 h1)
  · rw [if_pos q] at h0
    exact h0 (by first | decide | (dsimp only; decide)) _ (tp_rf_M 4) (by rw [tp_rf_9, z4]))
end
section
variable {l : Launch} {cy : Nat → ClassId} {ad wr cr : Nat → Nat} {D : va_G}
theorem fm_readPerson (hinj : nn_inj ad) : fw_H l cy ad wr cr D 35 4 sp_readPerson := fw_mk hinj (⟨"NameNotes$StudioReader", "readPerson", "()Z"⟩, prog_9_method_8_code, 2, (Option.some Jvm.ClassFile.FieldType.boolean), 0, true, 1) rfl rfl nn_KI3_ok nn_KJ3_ok nn_PF3_ok nn_PS3_ok (by decide +kernel) rfl rfl (List.forall_mem_cons.mpr ⟨fw_row nn_PM3_ok (x := 107) (k := 0) (mn := 22) (np := 1) (ob := true) (ci := 8) (⟨"NameNotes$Tape", "refuse", "(I)Z"⟩, prog_10_method_14_code, 2, (Option.some Jvm.ClassFile.FieldType.boolean), 1, true, 1) rfl (by decide +kernel) rfl rfl (by decide) (fun _ => ⟨_, _, rfl⟩) (fm_refuse hinj), (List.forall_mem_cons.mpr ⟨fw_row nn_PM3_ok (x := 113) (k := 0) (mn := 10) (np := 0) (ob := true) (ci := 8) (⟨"NameNotes$Tape", "step", "()V"⟩, prog_10_method_5_code, 2, (Option.none : Option Jvm.ClassFile.FieldType), 0, true, 4) rfl (by decide +kernel) rfl rfl (by decide) (fun _ => ⟨_, _, rfl⟩) (fm_step hinj), (List.forall_mem_cons.mpr ⟨fw_row nn_PM3_ok (x := 116) (k := 0) (mn := 23) (np := 0) (ob := true) (ci := 7) (⟨"NameNotes$StudioReader", "isNewName", "()Z"⟩, prog_9_method_12_code, 2, (Option.some Jvm.ClassFile.FieldType.boolean), 0, true, 1) rfl (by decide +kernel) rfl rfl (by decide) (fun _ => ⟨_, _, rfl⟩) (fm_isNewName hinj), (List.forall_mem_cons.mpr ⟨fw_row nn_PM3_ok (x := 127) (k := 2) (mn := 26) (np := 3) (ob := false) (ci := 0) (⟨"NameNotes", "put", "([JIJ)V"⟩, prog_1_method_87_code, 4, (Option.none : Option Jvm.ClassFile.FieldType), 3, false, 4) rfl (by decide +kernel) rfl rfl (by decide) (fun q => by cases q) (fm_putl hinj), (fun _ h => absurd h List.not_mem_nil)⟩)⟩)⟩)⟩) (fun as σ K h => by
  obtain ⟨A, e, p, rfl, h, h0, h1⟩ := h
  have hi := h.2.1
  have b1 : σ 49 13 = A 49 13 := h.pl rfl
  have z5 : fw_c 5 = 5 := fw_c_id (by decide) (by decide)
  have z4 : fw_c 4 = 4 := fw_c_id (by decide) (by decide)
  have ea : fw_c (A 49 13) = A 49 13 := fw_c_id (by omega) (by omega)
  unfold pr_person at h0 h1
  refine ⟨rfl, fun G hG => fs_readPerson_0 hG ?_⟩
  rw [b1, ea, z5]
  refine ⟨fun q => ?_, fun q => ⟨_, rfl, fs_readPerson_21 hG ⟨fw_01, ?_⟩⟩⟩
  · rw [if_neg (show ¬ 5 ≤ A 49 13 by omega)] at h0 h1
    refine ⟨rfl, h.st.1, fun σ2 M2 S2 => fs_readPerson_29 hG ?_⟩
    have H2 := h.st.2 σ2 M2 S2
    have N2 : ab_okM rd_M σ σ2 := fw_okM_tr (fw_okM_refl _ _) M2 (by decide)
    refine ⟨A, e, tn e p, rfl, H2, fun q2 => ?_, fun q2 qk => fs_readPerson_33 hG ⟨fun _ => ?_, fun y => absurd (fw_c1.symm.trans y) (by decide)⟩⟩
    · rw [if_pos q2] at h0
      exact fun σ' a b => fs_readPerson_33 hG ⟨fun y => absurd fw_c0 y, fun _ => ⟨fw_01, h0 q2 σ' (fw_okM_tr N2 a (by decide)) b⟩⟩
    · rw [if_neg (fun y => y q2)] at h0 h1
      have hw := H2.word qk
      generalize hx : A 49 13 = x at h0 h1 q ea hi ⊢
      have hx0 : 0 ≤ x ∧ x < 5 := by rw [← hx]; omega
      refine ⟨(59, 5), by decide, _, _, rfl, fun _ => fs_readPerson_56 hG ?_, fun y => absurd (by rw [ea]; show 0 ≤ x ∧ x < 5; exact hx0) y⟩
      rw [ea, hw.2, hw.1]
      have dw : fw_d (pr_wd e (tn e p)) = pr_wd e (tn e p) := by rw [← hw.1]; exact hw.2
      have I3 : RI (ab_ups A 59 x.toNat (pr_wd e (tn e p))) := ⟨H2.2.1.1, H2.2.1.2.1, H2.2.1.2.2.1, H2.2.1.2.2.2.1, H2.2.1.2.2.2.2.1, fun j hj => by
        by_cases ej : j = x.toNat
        · rw [ej, ab_ups_eq]; exact dw
        · rw [ab_ups_ne (fun y => ej y.2)]; exact H2.2.1.2.2.2.2.2.1 j hj, H2.2.1.2.2.2.2.2.2.1, H2.2.1.2.2.2.2.2.2.2⟩
      have H3 := H2.ups (k := 59) (j := x.toNat) (v := pr_wd e (tn e p)) (by decide) I3
      have M3 : ab_okM rd_M σ (ab_ups σ2 59 x.toNat (pr_wd e (tn e p))) := fw_okM_upa N2 (by decide)
      generalize ab_ups σ2 59 x.toNat (pr_wd e (tn e p)) = σ3 at H3 M3 ⊢
      have b4 : σ3 49 13 = x := by rw [H3.pl (k := 49) (j := 13) rfl, ab_ups_ne (fun z => absurd z.1 (by decide))]; exact hx
      have e1 : fw_c (x + 1) = x + 1 := fw_c_id (by omega) (by omega)
      rw [b4, e1]
      have I5 : RI (ab_ups (ab_ups A 59 x.toNat (pr_wd e (tn e p))) 49 13 (x + 1)) := ⟨I3.1, I3.2.1, (by rw [ab_ups_eq]; omega), I3.2.2.2.1, I3.2.2.2.2.1, I3.2.2.2.2.2.1, I3.2.2.2.2.2.2.1, I3.2.2.2.2.2.2.2⟩
      have H5 := H3.ups (k := 49) (j := 13) (v := x + 1) (by decide) I5
      have M5 : ab_okM rd_M σ (ab_ups σ3 49 13 (x + 1)) := fw_okM_ups M3 (by decide)
      generalize ab_ups σ3 49 13 (x + 1) = σ5 at H5 M5 ⊢
      exact ⟨rfl, H5.st.1, fun σ6 M6 S6 => fs_readPerson_76 hG ⟨fw_11, h1 rfl σ6 (fw_okM_tr M5 M6 (by decide)) (H5.st.2 σ6 M6 S6)⟩⟩
  · rw [if_pos q] at h0
    exact h0 (by first | decide | (dsimp only; decide)) _ (tp_rf_M 4) (by rw [tp_rf_9, z4]))
theorem fm_readKnows (hinj : nn_inj ad) : fw_H l cy ad wr cr D 36 4 sp_readKnows := fw_mk hinj (⟨"NameNotes$StudioReader", "readKnows", "()Z"⟩, prog_9_method_9_code, 5, (Option.some Jvm.ClassFile.FieldType.boolean), 0, true, 1) rfl rfl nn_KI3_ok nn_KJ3_ok nn_PF3_ok nn_PS3_ok (by decide +kernel) rfl rfl (List.forall_mem_cons.mpr ⟨fw_row nn_PM3_ok (x := 107) (k := 0) (mn := 22) (np := 1) (ob := true) (ci := 8) (⟨"NameNotes$Tape", "refuse", "(I)Z"⟩, prog_10_method_14_code, 2, (Option.some Jvm.ClassFile.FieldType.boolean), 1, true, 1) rfl (by decide +kernel) rfl rfl (by decide) (fun _ => ⟨_, _, rfl⟩) (fm_refuse hinj), (List.forall_mem_cons.mpr ⟨fw_row nn_PM3_ok (x := 113) (k := 0) (mn := 10) (np := 0) (ob := true) (ci := 8) (⟨"NameNotes$Tape", "step", "()V"⟩, prog_10_method_5_code, 2, (Option.none : Option Jvm.ClassFile.FieldType), 0, true, 4) rfl (by decide +kernel) rfl rfl (by decide) (fun _ => ⟨_, _, rfl⟩) (fm_step hinj), (List.forall_mem_cons.mpr ⟨fw_row nn_PM3_ok (x := 134) (k := 2) (mn := 27) (np := 3) (ob := false) (ci := 0) (⟨"NameNotes", "put", "([III)V"⟩, prog_1_method_86_code, 3, (Option.none : Option Jvm.ClassFile.FieldType), 3, false, 4) rfl (by decide +kernel) rfl rfl (by decide) (fun q => by cases q) (fm_put hinj), (List.forall_mem_cons.mpr ⟨fw_row nn_PM3_ok (x := 140) (k := 2) (mn := 29) (np := 2) (ob := false) (ci := 0) (⟨"NameNotes", "at", "([II)I"⟩, prog_1_method_84_code, 2, (Option.some Jvm.ClassFile.FieldType.int), 2, false, 0) rfl (by decide +kernel) rfl rfl (by decide) (fun q => by cases q) (fm_at hinj), (List.forall_mem_cons.mpr ⟨fw_row nn_PM3_ok (x := 144) (k := 0) (mn := 30) (np := 2) (ob := true) (ci := 8) (⟨"NameNotes$Tape", "needNumber", "(II)Z"⟩, prog_10_method_12_code, 3, (Option.some Jvm.ClassFile.FieldType.boolean), 2, true, 1) rfl (by decide +kernel) rfl rfl (by decide) (fun _ => ⟨_, _, rfl⟩) (fm_needNumber hinj), (List.forall_mem_cons.mpr ⟨fw_row nn_PM3_ok (x := 169) (k := 0) (mn := 33) (np := 2) (ob := true) (ci := 8) (⟨"NameNotes$Tape", "seek", "([JI)I"⟩, prog_10_method_11_code, 4, (Option.some Jvm.ClassFile.FieldType.int), 2, true, 0) rfl (by decide +kernel) rfl rfl (by decide) (fun _ => ⟨_, _, rfl⟩) (fm_seek hinj), (List.forall_mem_cons.mpr ⟨fw_row nn_PM3_ok (x := 173) (k := 2) (mn := 34) (np := 2) (ob := false) (ci := 0) (⟨"NameNotes", "has", "(II)Z"⟩, prog_1_method_80_code, 2, (Option.some Jvm.ClassFile.FieldType.boolean), 2, false, 1) rfl (by decide +kernel) rfl rfl (by decide) (fun q => by cases q) (fm_has hinj), (List.forall_mem_cons.mpr ⟨fw_row nn_PM3_ok (x := 188) (k := 0) (mn := 37) (np := 3) (ob := true) (ci := 6) (⟨"NameNotes$Studio", "setNinth", "(III)V"⟩, prog_8_method_14_code, 4, (Option.none : Option Jvm.ClassFile.FieldType), 3, true, 4) rfl (by decide +kernel) rfl rfl (by decide) (fun _ => ⟨_, _, rfl⟩) (fm_setNinth49 hinj), (fun _ h => absurd h List.not_mem_nil)⟩)⟩)⟩)⟩)⟩)⟩)⟩)⟩) (fun as σ K h => by
  obtain ⟨A, e, p, rfl, h, h0, h1⟩ := h
  have hi := h.2.1
  have em : fw_c (-1) = -1 := fw_c_id (by decide) (by decide)
  have z3 : fw_c 3 = 3 := fw_c_id (by decide) (by decide)
  unfold pr_knows at h0 h1
  refine ⟨rfl, fun G hG => fs_readKnows_0 hG ⟨rfl, h.st.1, fun σ1 M1 S1 => fs_readKnows_7 hG ?_⟩⟩
  have H1 := h.st.2 σ1 M1 S1
  have N1 : ab_okM rd_M σ σ1 := fw_okM_tr (fw_okM_refl _ _) M1 (by decide)
  rw [H1.pl (k := 49) (j := 13) rfl]
  refine H1.seek (n := 5) (by decide) ⟨by omega, by show A 49 13 ≤ 5; omega⟩ (fun q => ?_) (fun q q1 q2 => ?_)
  · rw [if_pos q] at h0
    exact fun σ' a b => fs_readKnows_28 hG ⟨fun y => absurd rfl y, fun _ => ⟨fw_01, h0 q σ' (fw_okM_tr N1 a (by decide)) b⟩⟩
  rw [if_neg (fun y => y q)] at h0 h1
  generalize pr_ix A e 59 (A 49 13) (tn e p) = u at h0 h1 q1 q2 ⊢
  have eu : fw_c u = u := fw_c_id (by omega) (by omega)
  refine fs_readKnows_28 hG ⟨fun _ => ?_, fun y => absurd y (by rw [eu, em]; omega)⟩
  refine ⟨rfl, H1.st.1, fun σ2 M2 S2 => fs_readKnows_51 hG ?_⟩
  have H2 := H1.st.2 σ2 M2 S2
  have N2 : ab_okM rd_M σ σ2 := fw_okM_tr N1 M2 (by decide)
  rw [H2.pl (k := 49) (j := 11) rfl]
  refine H2.seek (n := 9) (by decide) ⟨by omega, by show A 49 11 ≤ 9; omega⟩ (fun p1 => ?_) (fun p1 r1 r2 => ?_)
  · rw [if_pos p1] at h0
    exact fun σ' a b => fs_readKnows_72 hG ⟨fun y => absurd rfl y, fun _ => ⟨fw_01, h0 p1 σ' (fw_okM_tr N2 a (by decide)) b⟩⟩
  rw [if_neg (fun y => y p1)] at h0 h1
  generalize pr_ix A e 57 (A 49 11) (tn e (tn e p)) = x at h0 h1 r1 r2 ⊢
  have ex : fw_c x = x := fw_c_id (by omega) (by omega)
  refine fs_readKnows_72 hG ⟨fun _ => ?_, fun y => absurd y (by rw [ex, em]; omega)⟩
  refine ⟨(64, 5), by decide, _, rfl, fun _ => ?_, fun y => absurd (by rw [eu]; show 0 ≤ u ∧ u < 5; omega) y⟩
  rw [eu, H2.pl (k := 64) (j := u.toNat) rfl]
  refine fs_readKnows_88 hG ⟨_, _, rfl, by rw [ex]; omega, ?_⟩
  refine fs_readKnows_96 hG ⟨fun y => ?_, fun y => ⟨_, rfl, fs_readKnows_107 hG ⟨fw_01, ?_⟩⟩⟩
  · have hf : pr_hs (A 64 u.toNat) x = false := by unfold pr_hs; exact decide_eq_false (fw_bo_eq y)
    rw [hf] at h0 h1
    replace h0 := h0
    refine ⟨(64, 5), by decide, _, _, rfl, fun _ => fs_readKnows_132 hG ?_, fun y => absurd (by rw [eu]; show 0 ≤ u ∧ u < 5; omega) y⟩
    rw [eu]
    have H3 := H2.ups (k := 64) (j := u.toNat) (v := pr_or (A 64 u.toNat) x) (by decide) hi
    have N3 : ab_okM rd_M σ (ab_ups σ2 64 u.toNat (pr_or (A 64 u.toNat) x)) := fw_okM_upa N2 (by decide)
    show sp_step [(2, 1, 0)] (ab_ups σ2 64 u.toNat (pr_or (A 64 u.toNat) x)) _
    generalize ab_ups σ2 64 u.toNat (pr_or (A 64 u.toNat) x) = σ3 at H3 N3 ⊢
    refine ⟨rfl, H3.st.1, fun σ4 M4 S4 => fs_readKnows_139 hG ?_⟩
    have H4 := H3.st.2 σ4 M4 S4
    have N4 : ab_okM rd_M σ σ4 := fw_okM_tr N3 M4 (by decide)
    refine H4.num (by decide) (fun p2 => ?_) (fun p2 p8 pa pb => ?_)
    · rw [if_neg (show ¬ false = true by decide), if_pos p2] at h0
      exact fun σ' a b => fs_readKnows_149 hG ⟨fun y => absurd fw_c0 y, fun _ => ⟨fw_01, h0 p2 σ' (fw_okM_tr N4 a (by decide)) b⟩⟩
    · rw [if_neg (show ¬ false = true by decide), if_neg (fun y => y p2)] at h1
      have ev : fw_c (σ4 1 8) = (tk e (tn e (tn e (tn e p)))).2.2.2.2 := by rw [p8]; exact fw_c_id (by omega) (by omega)
      refine fs_readKnows_149 hG ⟨fun _ => ⟨_, _, _, rfl, by omega, ?_⟩, fun y => absurd (fw_c1.symm.trans y) (by decide)⟩
      rw [ev]
      have H5 := H4.ups (k := 55) (j := (u * 9 + x).toNat) (v := (tk e (tn e (tn e (tn e p)))).2.2.2.2) (by decide) hi
      have N5 : ab_okM rd_M σ (ab_ups σ4 55 (u * 9 + x).toNat (tk e (tn e (tn e (tn e p)))).2.2.2.2) := fw_okM_upa N4 (by decide)
      generalize ab_ups σ4 55 (u * 9 + x).toNat (tk e (tn e (tn e (tn e p)))).2.2.2.2 = σ5 at H5 N5 ⊢
      refine fs_readKnows_170 hG ⟨rfl, H5.st.1, fun σ6 M6 S6 => fs_readKnows_177 hG ⟨fw_11, h1 rfl σ6 (fw_okM_tr N5 M6 (by decide)) (H5.st.2 σ6 M6 S6)⟩⟩
  · have hf : pr_hs (A 64 u.toNat) x = true := by unfold pr_hs; exact decide_eq_true (fw_bo_ne y)
    rw [hf] at h0
    rw [if_pos rfl] at h0
    refine h0 (by first | decide | (dsimp only; decide)) _ (fw_okM_ups (fw_okM_tr N2 (tp_rf_M 3) (by decide)) (by decide)) ?_
    rw [ab_ups_ne (by decide), tp_rf_9, z3])
theorem fm_readDare (hinj : nn_inj ad) : fw_H l cy ad wr cr D 38 4 sp_readDare := fw_mk hinj (⟨"NameNotes$StudioReader", "readDare", "()Z"⟩, prog_9_method_10_code, 2, (Option.some Jvm.ClassFile.FieldType.boolean), 0, true, 1) rfl rfl nn_KI3_ok nn_KJ3_ok nn_PF3_ok nn_PS3_ok (by decide +kernel) rfl rfl (List.forall_mem_cons.mpr ⟨fw_row nn_PM3_ok (x := 107) (k := 0) (mn := 22) (np := 1) (ob := true) (ci := 8) (⟨"NameNotes$Tape", "refuse", "(I)Z"⟩, prog_10_method_14_code, 2, (Option.some Jvm.ClassFile.FieldType.boolean), 1, true, 1) rfl (by decide +kernel) rfl rfl (by decide) (fun _ => ⟨_, _, rfl⟩) (fm_refuse hinj), (List.forall_mem_cons.mpr ⟨fw_row nn_PM3_ok (x := 113) (k := 0) (mn := 10) (np := 0) (ob := true) (ci := 8) (⟨"NameNotes$Tape", "step", "()V"⟩, prog_10_method_5_code, 2, (Option.none : Option Jvm.ClassFile.FieldType), 0, true, 4) rfl (by decide +kernel) rfl rfl (by decide) (fun _ => ⟨_, _, rfl⟩) (fm_step hinj), (List.forall_mem_cons.mpr ⟨fw_row nn_PM3_ok (x := 134) (k := 2) (mn := 27) (np := 3) (ob := false) (ci := 0) (⟨"NameNotes", "put", "([III)V"⟩, prog_1_method_86_code, 3, (Option.none : Option Jvm.ClassFile.FieldType), 3, false, 4) rfl (by decide +kernel) rfl rfl (by decide) (fun q => by cases q) (fm_put hinj), (List.forall_mem_cons.mpr ⟨fw_row nn_PM3_ok (x := 144) (k := 0) (mn := 30) (np := 2) (ob := true) (ci := 8) (⟨"NameNotes$Tape", "needNumber", "(II)Z"⟩, prog_10_method_12_code, 3, (Option.some Jvm.ClassFile.FieldType.boolean), 2, true, 1) rfl (by decide +kernel) rfl rfl (by decide) (fun _ => ⟨_, _, rfl⟩) (fm_needNumber hinj), (List.forall_mem_cons.mpr ⟨fw_row nn_PM3_ok (x := 169) (k := 0) (mn := 33) (np := 2) (ob := true) (ci := 8) (⟨"NameNotes$Tape", "seek", "([JI)I"⟩, prog_10_method_11_code, 4, (Option.some Jvm.ClassFile.FieldType.int), 2, true, 0) rfl (by decide +kernel) rfl rfl (by decide) (fun _ => ⟨_, _, rfl⟩) (fm_seek hinj), (List.forall_mem_cons.mpr ⟨fw_row nn_PM3_ok (x := 173) (k := 2) (mn := 34) (np := 2) (ob := false) (ci := 0) (⟨"NameNotes", "has", "(II)Z"⟩, prog_1_method_80_code, 2, (Option.some Jvm.ClassFile.FieldType.boolean), 2, false, 1) rfl (by decide +kernel) rfl rfl (by decide) (fun q => by cases q) (fm_has hinj), (fun _ h => absurd h List.not_mem_nil)⟩)⟩)⟩)⟩)⟩)⟩) (fun as σ K h => by
  obtain ⟨A, e, p, rfl, h, h0, h1⟩ := h
  have hi := h.2.1
  have em : fw_c (-1) = -1 := fw_c_id (by decide) (by decide)
  have z3 : fw_c 3 = 3 := fw_c_id (by decide) (by decide)
  unfold pr_dare at h0 h1
  refine ⟨rfl, fun G hG => fs_readDare_0 hG ⟨rfl, h.st.1, fun σ1 M1 S1 => fs_readDare_7 hG ?_⟩⟩
  have H1 := h.st.2 σ1 M1 S1
  have N1 : ab_okM rd_M σ σ1 := fw_okM_tr (fw_okM_refl _ _) M1 (by decide)
  rw [H1.pl (k := 49) (j := 13) rfl]
  refine H1.seek (n := 5) (by decide) ⟨by omega, by show A 49 13 ≤ 5; omega⟩ (fun q => ?_) (fun q q1 q2 => ?_)
  · rw [if_pos q] at h0
    exact fun σ' a b => fs_readDare_28 hG ⟨fun y => absurd rfl y, fun _ => ⟨fw_01, h0 q σ' (fw_okM_tr N1 a (by decide)) b⟩⟩
  rw [if_neg (fun y => y q)] at h0 h1
  generalize pr_ix A e 59 (A 49 13) (tn e p) = u at h0 h1 q1 q2 ⊢
  have eu : fw_c u = u := fw_c_id (by omega) (by omega)
  refine fs_readDare_28 hG ⟨fun _ => ?_, fun y => absurd y (by rw [eu, em]; omega)⟩
  rw [H1.pl (k := 48) (j := 3) rfl]
  refine ⟨_, _, rfl, by rw [eu]; omega, ?_⟩
  refine fs_readDare_44 hG ⟨fun y => ?_, fun y => ⟨_, rfl, fs_readDare_55 hG ⟨fw_01, ?_⟩⟩⟩
  · have hf : pr_hs (A 48 3) u = false := by unfold pr_hs; exact decide_eq_false (fw_bo_eq y)
    rw [hf] at h0 h1
    rw [H1.pl (k := 48) (j := 3) rfl]
    have H3 := H1.ups (k := 48) (j := 3) (v := pr_or (A 48 3) u) (by decide) hi
    have N3 : ab_okM rd_M σ (ab_ups σ1 48 3 (pr_or (A 48 3) u)) := fw_okM_ups N1 (by decide)
    show sp_step [(2, 1, 0)] (ab_ups σ1 48 3 (pr_or (A 48 3) u)) _
    generalize ab_ups σ1 48 3 (pr_or (A 48 3) u) = σ3 at H3 N3 ⊢
    refine ⟨rfl, H3.st.1, fun σ4 M4 S4 => fs_readDare_75 hG ?_⟩
    have H4 := H3.st.2 σ4 M4 S4
    have N4 : ab_okM rd_M σ σ4 := fw_okM_tr N3 M4 (by decide)
    refine H4.num (by decide) (fun p2 => ?_) (fun p2 p8 pa pb => ?_)
    · rw [if_neg (show ¬ false = true by decide), if_pos p2] at h0
      exact fun σ' a b => fs_readDare_85 hG ⟨fun y => absurd fw_c0 y, fun _ => ⟨fw_01, h0 p2 σ' (fw_okM_tr N4 a (by decide)) b⟩⟩
    · rw [if_neg (show ¬ false = true by decide), if_neg (fun y => y p2)] at h1
      have ev : fw_c (σ4 1 8) = (tk e (tn e (tn e p))).2.2.2.2 := by rw [p8]; exact fw_c_id (by omega) (by omega)
      refine fs_readDare_85 hG ⟨fun _ => ⟨(56, 5), by decide, _, _, rfl, fun _ => fs_readDare_108 hG ?_, fun y => absurd (by rw [eu]; show 0 ≤ u ∧ u < 5; omega) y⟩, fun y => absurd (fw_c1.symm.trans y) (by decide)⟩
      rw [ev, eu]
      have H5 := H4.ups (k := 56) (j := u.toNat) (v := (tk e (tn e (tn e p))).2.2.2.2) (by decide) hi
      have N5 : ab_okM rd_M σ (ab_ups σ4 56 u.toNat (tk e (tn e (tn e p))).2.2.2.2) := fw_okM_upa N4 (by decide)
      generalize ab_ups σ4 56 u.toNat (tk e (tn e (tn e p))).2.2.2.2 = σ5 at H5 N5 ⊢
      exact ⟨rfl, H5.st.1, fun σ6 M6 S6 => fs_readDare_115 hG ⟨fw_11, h1 rfl σ6 (fw_okM_tr N5 M6 (by decide)) (H5.st.2 σ6 M6 S6)⟩⟩
  · have hf : pr_hs (A 48 3) u = true := by unfold pr_hs; exact decide_eq_true (fw_bo_ne y)
    rw [hf, if_pos rfl] at h0
    exact h0 (by first | decide | (dsimp only; decide)) _ (fw_okM_tr N1 (tp_rf_M 3) (by decide)) (by rw [tp_rf_9, z3]))
theorem fm_readFrom (hinj : nn_inj ad) : fw_H l cy ad wr cr D 39 4 sp_readFrom := fw_mk hinj (⟨"NameNotes$StudioReader", "readFrom", "()Z"⟩, prog_9_method_11_code, 1, (Option.some Jvm.ClassFile.FieldType.boolean), 0, true, 1) rfl rfl nn_KI3_ok nn_KJ3_ok nn_PF3_ok nn_PS3_ok (by decide +kernel) rfl rfl (List.forall_mem_cons.mpr ⟨fw_row nn_PM3_ok (x := 107) (k := 0) (mn := 22) (np := 1) (ob := true) (ci := 8) (⟨"NameNotes$Tape", "refuse", "(I)Z"⟩, prog_10_method_14_code, 2, (Option.some Jvm.ClassFile.FieldType.boolean), 1, true, 1) rfl (by decide +kernel) rfl rfl (by decide) (fun _ => ⟨_, _, rfl⟩) (fm_refuse hinj), (List.forall_mem_cons.mpr ⟨fw_row nn_PM3_ok (x := 113) (k := 0) (mn := 10) (np := 0) (ob := true) (ci := 8) (⟨"NameNotes$Tape", "step", "()V"⟩, prog_10_method_5_code, 2, (Option.none : Option Jvm.ClassFile.FieldType), 0, true, 4) rfl (by decide +kernel) rfl rfl (by decide) (fun _ => ⟨_, _, rfl⟩) (fm_step hinj), (List.forall_mem_cons.mpr ⟨fw_row nn_PM3_ok (x := 144) (k := 0) (mn := 30) (np := 2) (ob := true) (ci := 8) (⟨"NameNotes$Tape", "needNumber", "(II)Z"⟩, prog_10_method_12_code, 3, (Option.some Jvm.ClassFile.FieldType.boolean), 2, true, 1) rfl (by decide +kernel) rfl rfl (by decide) (fun _ => ⟨_, _, rfl⟩) (fm_needNumber hinj), (fun _ h => absurd h List.not_mem_nil)⟩)⟩)⟩) (fun as σ K h => by
  obtain ⟨A, e, p, rfl, h, h0, h1⟩ := h
  have hi := h.2.1
  have z3 : fw_c 3 = 3 := fw_c_id (by decide) (by decide)
  have b1 : σ 48 4 = A 48 4 := h.pl rfl
  have ea : fw_c (A 48 4) = A 48 4 := fw_c_id (by omega) (by omega)
  unfold pr_from at h0 h1
  refine ⟨rfl, fun G hG => fs_readFrom_0 hG ?_⟩
  rw [b1, ea]
  refine ⟨fun q => ⟨fw_11, ?_⟩, fun q => ⟨_, rfl, fs_readFrom_15 hG ⟨fw_01, ?_⟩⟩⟩
  · rw [if_neg (fun y => y q)] at h0 h1
    rw [fw_c1]
    have I1 : RI (ab_ups A 48 4 1) := ⟨hi.1, hi.2.1, hi.2.2.1, hi.2.2.2.1, hi.2.2.2.2.1, hi.2.2.2.2.2.1, hi.2.2.2.2.2.2.1, by rw [ab_ups_eq]; decide⟩
    have H1 := h.ups (k := 48) (j := 4) (v := 1) (by decide) I1
    have N1 : ab_okM rd_M σ (ab_ups σ 48 4 1) := fw_okM_ups (fw_okM_refl _ _) (by decide)
    generalize ab_ups σ 48 4 1 = σ1 at H1 N1 ⊢
    refine ⟨rfl, H1.st.1, fun σ2 M2 S2 => fs_readFrom_28 hG ?_⟩
    have H2 := H1.st.2 σ2 M2 S2
    have N2 : ab_okM rd_M σ σ2 := fw_okM_tr N1 M2 (by decide)
    refine H2.num (by decide) (fun p2 => ?_) (fun p2 p8 pa pb => ?_)
    · rw [if_pos p2] at h0
      exact fun σ' a b => fs_readFrom_38 hG ⟨fun y => absurd fw_c0 y, fun _ => ⟨fw_01, h0 p2 σ' (fw_okM_tr N2 a (by decide)) b⟩⟩
    · rw [if_neg (fun y => y p2)] at h1
      have ev : fw_c (σ2 1 8) = (tk e (tn e p)).2.2.2.2 := by rw [p8]; exact fw_c_id (by omega) (by omega)
      refine fs_readFrom_38 hG ⟨fun _ => ?_, fun y => absurd (fw_c1.symm.trans y) (by decide)⟩
      rw [ev]
      have H5 := H2.ups (k := 49) (j := 14) (v := (tk e (tn e p)).2.2.2.2) (by decide) I1
      have N5 : ab_okM rd_M σ (ab_ups σ2 49 14 (tk e (tn e p)).2.2.2.2) := fw_okM_ups N2 (by decide)
      generalize ab_ups σ2 49 14 (tk e (tn e p)).2.2.2.2 = σ5 at H5 N5 ⊢
      exact ⟨rfl, H5.st.1, fun σ6 M6 S6 => fs_readFrom_64 hG ⟨fw_11, h1 rfl σ6 (fw_okM_tr N5 M6 (by decide)) (H5.st.2 σ6 M6 S6)⟩⟩
  · rw [if_pos q] at h0
    exact h0 (by first | decide | (dsimp only; decide)) _ (tp_rf_M 3) (by rw [tp_rf_9, z3]))
theorem fm_readLine (hinj : nn_inj ad) : fw_H l cy ad wr cr D 19 6 sp_readLine := fw_mk hinj (⟨"NameNotes$StudioReader", "readLine", "()Z"⟩, prog_9_method_3_code, 1, (Option.some Jvm.ClassFile.FieldType.boolean), 0, true, 1) rfl rfl nn_KI3_ok nn_KJ3_ok nn_PF3_ok nn_PS3_ok (by decide +kernel) rfl rfl (List.forall_mem_cons.mpr ⟨fw_row nn_PM3_ok (x := 70) (k := 0) (mn := 20) (np := 1) (ob := true) (ci := 8) (⟨"NameNotes$Tape", "isWord", "(LNameNotes$Word;)Z"⟩, prog_10_method_10_code, 2, (Option.some Jvm.ClassFile.FieldType.boolean), 1, true, 1) rfl (by decide +kernel) rfl rfl (by decide) (fun _ => ⟨_, _, rfl⟩) (fm_isWord hinj), (List.forall_mem_cons.mpr ⟨fw_row nn_PM3_ok (x := 74) (k := 0) (mn := 21) (np := 0) (ob := true) (ci := 7) (⟨"NameNotes$StudioReader", "readTune", "()Z"⟩, prog_9_method_4_code, 4, (Option.some Jvm.ClassFile.FieldType.boolean), 0, true, 1) rfl (by decide +kernel) rfl rfl (by decide) (fun _ => ⟨_, _, rfl⟩) (fm_readTune hinj), (List.forall_mem_cons.mpr ⟨fw_row nn_PM3_ok (x := 80) (k := 0) (mn := 31) (np := 0) (ob := true) (ci := 7) (⟨"NameNotes$StudioReader", "readClue", "()Z"⟩, prog_9_method_6_code, 4, (Option.some Jvm.ClassFile.FieldType.boolean), 0, true, 1) rfl (by decide +kernel) rfl rfl (by decide) (fun _ => ⟨_, _, rfl⟩) (fm_readClue hinj), (List.forall_mem_cons.mpr ⟨fw_row nn_PM3_ok (x := 86) (k := 0) (mn := 35) (np := 0) (ob := true) (ci := 7) (⟨"NameNotes$StudioReader", "readPerson", "()Z"⟩, prog_9_method_8_code, 2, (Option.some Jvm.ClassFile.FieldType.boolean), 0, true, 1) rfl (by decide +kernel) rfl rfl (by decide) (fun _ => ⟨_, _, rfl⟩) (fm_readPerson hinj), (List.forall_mem_cons.mpr ⟨fw_row nn_PM3_ok (x := 92) (k := 0) (mn := 36) (np := 0) (ob := true) (ci := 7) (⟨"NameNotes$StudioReader", "readKnows", "()Z"⟩, prog_9_method_9_code, 5, (Option.some Jvm.ClassFile.FieldType.boolean), 0, true, 1) rfl (by decide +kernel) rfl rfl (by decide) (fun _ => ⟨_, _, rfl⟩) (fm_readKnows hinj), (List.forall_mem_cons.mpr ⟨fw_row nn_PM3_ok (x := 98) (k := 0) (mn := 38) (np := 0) (ob := true) (ci := 7) (⟨"NameNotes$StudioReader", "readDare", "()Z"⟩, prog_9_method_10_code, 2, (Option.some Jvm.ClassFile.FieldType.boolean), 0, true, 1) rfl (by decide +kernel) rfl rfl (by decide) (fun _ => ⟨_, _, rfl⟩) (fm_readDare hinj), (List.forall_mem_cons.mpr ⟨fw_row nn_PM3_ok (x := 104) (k := 0) (mn := 39) (np := 0) (ob := true) (ci := 7) (⟨"NameNotes$StudioReader", "readFrom", "()Z"⟩, prog_9_method_11_code, 1, (Option.some Jvm.ClassFile.FieldType.boolean), 0, true, 1) rfl (by decide +kernel) rfl rfl (by decide) (fun _ => ⟨_, _, rfl⟩) (fm_readFrom hinj), (List.forall_mem_cons.mpr ⟨fw_row nn_PM3_ok (x := 107) (k := 0) (mn := 22) (np := 1) (ob := true) (ci := 8) (⟨"NameNotes$Tape", "refuse", "(I)Z"⟩, prog_10_method_14_code, 2, (Option.some Jvm.ClassFile.FieldType.boolean), 1, true, 1) rfl (by decide +kernel) rfl rfl (by decide) (fun _ => ⟨_, _, rfl⟩) (fm_refuse hinj), (fun _ h => absurd h List.not_mem_nil)⟩)⟩)⟩)⟩)⟩)⟩)⟩)⟩) (fun as σ K h => by
  obtain ⟨A, e, p, rfl, h, h0, h1⟩ := h
  have hk := h.kw
  -- a word's number: the token is a word there
  have isw : ∀ x : Int, 0 ≤ x → ((fw_c (σ 1 5) = 2 ∧ σ 1 7 = x) ↔ tw e p = x) := by
    intro x hx
    rw [h.kind.2, hk.1]
    refine ⟨fun q => q.2, fun q => ⟨?_, q⟩⟩
    unfold tw at q
    by_cases g : (tk e p).1 = 2
    · exact g
    · rw [if_neg g] at q; omega
  have one : ∀ (v : Int) (σ' : ab_SG) (r : pr_R), (0 ≤ fw_c v ∧ fw_c v ≤ 1) → (0 ≤ fw_c v ∧ fw_c v ≤ 1) := fun _ _ _ z => z
  unfold pr_line at h0 h1
  refine ⟨rfl, fun G hG => fs_readLine_0 hG ⟨0, rfl, ⟨hk.2.1, hk.2.2, by decide, by decide⟩, ?_⟩⟩
  refine fs_readLine_10 hG ⟨fun z => ?_, fun z => ?_⟩
  rotate_left
  · have hq := (isw 0 (by decide)).mp (fw_bo_ne z)
    rw [if_pos hq] at h0 h1
    exact ⟨A, e, p, rfl, h, fun q σ' a b => fs_readLine_17 hG ⟨fw_01, h0 q σ' a b⟩, fun q σ' a b => fs_readLine_17 hG ⟨fw_11, h1 q σ' a b⟩⟩
  have q0 : ¬ tw e p = 0 := fun y => fw_bo_eq z ((isw 0 (by decide)).mpr y)
  rw [if_neg q0] at h0 h1
  refine ⟨1, rfl, ⟨hk.2.1, hk.2.2, by decide, by decide⟩, fs_readLine_28 hG ⟨fun z1 => ?_, fun z1 => ?_⟩⟩
  rotate_left
  · have hq := (isw 1 (by decide)).mp (fw_bo_ne z1)
    rw [if_pos hq] at h0 h1
    exact ⟨A, e, p, rfl, h, fun q σ' a b => fs_readLine_35 hG ⟨fw_01, h0 q σ' a b⟩, fun q σ' a b => fs_readLine_35 hG ⟨fw_11, h1 q σ' a b⟩⟩
  have q1 : ¬ tw e p = 1 := fun y => fw_bo_eq z1 ((isw 1 (by decide)).mpr y)
  rw [if_neg q1] at h0 h1
  refine ⟨2, rfl, ⟨hk.2.1, hk.2.2, by decide, by decide⟩, fs_readLine_46 hG ⟨fun z2 => ?_, fun z2 => ?_⟩⟩
  rotate_left
  · have hq := (isw 2 (by decide)).mp (fw_bo_ne z2)
    rw [if_pos hq] at h0 h1
    exact ⟨A, e, p, rfl, h, fun q σ' a b => fs_readLine_53 hG ⟨fw_01, h0 q σ' a b⟩, fun q σ' a b => fs_readLine_53 hG ⟨fw_11, h1 q σ' a b⟩⟩
  have q2 : ¬ tw e p = 2 := fun y => fw_bo_eq z2 ((isw 2 (by decide)).mpr y)
  rw [if_neg q2] at h0 h1
  refine ⟨3, rfl, ⟨hk.2.1, hk.2.2, by decide, by decide⟩, fs_readLine_64 hG ⟨fun z3 => ?_, fun z3 => ?_⟩⟩
  rotate_left
  · have hq := (isw 3 (by decide)).mp (fw_bo_ne z3)
    rw [if_pos hq] at h0 h1
    exact ⟨A, e, p, rfl, h, fun q σ' a b => fs_readLine_71 hG ⟨fw_01, h0 q σ' a b⟩, fun q σ' a b => fs_readLine_71 hG ⟨fw_11, h1 q σ' a b⟩⟩
  have q3 : ¬ tw e p = 3 := fun y => fw_bo_eq z3 ((isw 3 (by decide)).mpr y)
  rw [if_neg q3] at h0 h1
  refine ⟨4, rfl, ⟨hk.2.1, hk.2.2, by decide, by decide⟩, fs_readLine_82 hG ⟨fun z4 => ?_, fun z4 => ?_⟩⟩
  rotate_left
  · have hq := (isw 4 (by decide)).mp (fw_bo_ne z4)
    rw [if_pos hq] at h0 h1
    exact ⟨A, e, p, rfl, h, fun q σ' a b => fs_readLine_89 hG ⟨fw_01, h0 q σ' a b⟩, fun q σ' a b => fs_readLine_89 hG ⟨fw_11, h1 q σ' a b⟩⟩
  have q4 : ¬ tw e p = 4 := fun y => fw_bo_eq z4 ((isw 4 (by decide)).mpr y)
  rw [if_neg q4] at h0 h1
  refine ⟨5, rfl, ⟨hk.2.1, hk.2.2, by decide, by decide⟩, fs_readLine_100 hG ⟨fun z5 => ?_, fun z5 => ?_⟩⟩
  rotate_left
  · have hq := (isw 5 (by decide)).mp (fw_bo_ne z5)
    rw [if_pos hq] at h0 h1
    exact ⟨A, e, p, rfl, h, fun q σ' a b => fs_readLine_107 hG (fs_readLine_118 hG ⟨fw_01, h0 q σ' a b⟩), fun q σ' a b => fs_readLine_107 hG (fs_readLine_118 hG ⟨fw_11, h1 q σ' a b⟩)⟩
  have q5 : ¬ tw e p = 5 := fun y => fw_bo_eq z5 ((isw 5 (by decide)).mpr y)
  rw [if_neg q5] at h0
  exact ⟨1, rfl, fs_readLine_118 hG ⟨fw_01, h0 (by first | decide | (dsimp only; decide)) _ (tp_rf_M 1) (by rw [tp_rf_9, fw_c1])⟩⟩)
end
