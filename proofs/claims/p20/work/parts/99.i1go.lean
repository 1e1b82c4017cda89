/-! the reference's step to the next token -/
def sp_m_isLetter : fw_SP := fun as σ K => ∃ x : Int, as = [(0, 0, x)] ∧ K (some (0, 0, fw_bo (97 ≤ fw_c x ∧ fw_c x ≤ 122))) σ
def sp_m_isDigit : fw_SP := fun as σ K => ∃ x : Int, as = [(0, 0, x)] ∧ K (some (0, 0, fw_bo (48 ≤ fw_c x ∧ fw_c x ≤ 57))) σ
def sp_m_tapeAt : fw_SP := fun as σ K => ∃ x : Int, as = [(2, 93, 0), (0, 0, x)] ∧ (0 ≤ x ∧ x ≤ 940 ∧ 0 ≤ σ 93 3 ∧ σ 93 3 ≤ 940) ∧ K (some (0, 0, if x < σ 93 3 then σ 94 x.toNat else 0)) σ
def go_M : ab_ML := [(93, 5), (93, 6), (93, 7), (93, 8), (93, 9), (93, 12)]
/-- the reference's fields tell a token -/
def mg_is (σ : ab_SG) (k : tk_T) : Prop := σ 93 6 = k.2.1 ∧ σ 93 5 = (k.2.2.1 : Int) ∧ (k.1 = 0 → σ 93 7 = 0) ∧ (k.1 = 1 ∨ k.1 = 46 → σ 93 7 = 1) ∧ (k.1 = 2 → σ 93 7 = 2 ∧ rf_ok 7 k.2.2.2.1 ∧ σ 93 12 = rf_w 7 k.2.2.2.1) ∧
  (k.1 = 3 → σ 93 7 = 3 ∧ σ 93 8 = k.2.2.2.2 ∧ 0 ≤ k.2.2.2.2 ∧ k.2.2.2.2 ≤ 99) ∧ (k.1 = 59 ∨ (60 ≤ k.1 ∧ k.1 ≤ 62) ∨ k.1 = 40 ∨ k.1 = 41 → σ 93 7 = 4 ∧ σ 93 9 = k.1)
def mg_tp (σ : ab_SG) (t : Nat → Int) : Prop := ∀ j : Nat, (j : Int) < σ 93 3 → σ 94 j = t j ∧ 0 ≤ t j ∧ t j ≤ 255
def sp_m_go : fw_SP := fun as σ K => ∃ t : Nat → Int, as = [(2, 93, 0)] ∧ (0 ≤ σ 93 5 ∧ σ 93 5 ≤ σ 93 3 ∧ σ 93 3 ≤ 940 ∧ 0 ≤ σ 93 4 ∧ σ 93 4 ≤ 940) ∧ mg_tp σ t ∧
  ∀ σ' : ab_SG, ab_okM go_M σ σ' → mg_is σ' (tk_tok t (σ 93 3).toNat (σ 93 4) (σ 93 5).toNat) → K none σ'
abbrev fk_m_isLetter : List fw_CR := []
abbrev st_m_isLetter : fw_K → fw_KR → fw_K := fw_st vwCl nn_sh nn_kd fw_kv fw_wc (nn_KI20.map (fun x => x.1)) (nn_KJ20.map (fun x => x.1)) (nn_PF20.map (fun x => x.1)) (nn_PS20.map (fun x => x.1)) fk_m_isLetter 0 nn_dt213 1 1
theorem fs_m_isLetter_0 {G : fw_K} {R : fw_KR} (hG : fw_cls st_m_isLetter R G) {x : Int} {σ : ab_SG} (h : (fw_c x < fw_c 97 → (0 ≤ fw_c 0 ∧ fw_c 0 ≤ 1) ∧ R (some (0, 0, 0)) σ) ∧ (fw_c 97 ≤ fw_c x → (fw_c 122 < fw_c x → (0 ≤ fw_c 0 ∧ fw_c 0 ≤ 1) ∧ R (some (0, 0, 0)) σ) ∧ (fw_c x ≤ fw_c 122 → (0 ≤ fw_c 1 ∧ fw_c 1 ≤ 1) ∧ R (some (0, 0, 1)) σ))) : G 0 [some (0, 0, x)] [] σ := fw_on hG [] 200 h
abbrev fk_m_isDigit : List fw_CR := []
abbrev st_m_isDigit : fw_K → fw_KR → fw_K := fw_st vwCl nn_sh nn_kd fw_kv fw_wc (nn_KI20.map (fun x => x.1)) (nn_KJ20.map (fun x => x.1)) (nn_PF20.map (fun x => x.1)) (nn_PS20.map (fun x => x.1)) fk_m_isDigit 0 nn_dt214 1 1
theorem fs_m_isDigit_0 {G : fw_K} {R : fw_KR} (hG : fw_cls st_m_isDigit R G) {x : Int} {σ : ab_SG} (h : (fw_c x < fw_c 48 → (0 ≤ fw_c 0 ∧ fw_c 0 ≤ 1) ∧ R (some (0, 0, 0)) σ) ∧ (fw_c 48 ≤ fw_c x → (fw_c 57 < fw_c x → (0 ≤ fw_c 0 ∧ fw_c 0 ≤ 1) ∧ R (some (0, 0, 0)) σ) ∧ (fw_c x ≤ fw_c 57 → (0 ≤ fw_c 1 ∧ fw_c 1 ≤ 1) ∧ R (some (0, 0, 1)) σ))) : G 0 [some (0, 0, x)] [] σ := fw_on hG [] 200 h
abbrev fk_m_tapeAt : List fw_CR := []
abbrev st_m_tapeAt : fw_K → fw_KR → fw_K := fw_st vwCl nn_sh nn_kd fw_kv fw_wc (nn_KI20.map (fun x => x.1)) (nn_KJ20.map (fun x => x.1)) (nn_PF20.map (fun x => x.1)) (nn_PS20.map (fun x => x.1)) fk_m_tapeAt 0 nn_dt215 2 0
theorem fs_m_tapeAt_0 {G : fw_K} {R : fw_KR} (hG : fw_cls st_m_tapeAt R G) {x : Int} {σ : ab_SG} (h : (fw_c (σ 93 3) ≤ fw_c x → R (some (0, 0, 0)) σ) ∧ (fw_c x < fw_c (σ 93 3) → (0 ≤ fw_c x ∧ fw_c x < ((940 : Nat) : Int)) ∧ (R (some (0, 0, σ 94 (fw_c x).toNat)) σ))) : G 0 [some (2, 93, 0), some (0, 0, x)] [] σ := fw_on hG [] 200 h
abbrev fk_m_go : List fw_CR := [(129, 1, false, 0, 0, sp_m_isLetter), (133, 1, false, 0, 0, sp_m_isDigit), (146, 1, true, 11, 0, sp_m_tapeAt)]
abbrev st_m_go : fw_K → fw_KR → fw_K := fw_st vwCl nn_sh nn_kd fw_kv fw_wc (nn_KI20.map (fun x => x.1)) (nn_KJ20.map (fun x => x.1)) (nn_PF20.map (fun x => x.1)) (nn_PS20.map (fun x => x.1)) fk_m_go 1 nn_dt212 5 4
theorem fs_m_go_0 {G : fw_K} {R : fw_KR} (hG : fw_cls st_m_go R G) {σ : ab_SG} (h : (fw_c (σ 93 3) ≤ fw_c (σ 93 5) → G 52 [some (2, 93, 0), none, none, none, none] [] σ) ∧ (fw_c (σ 93 5) < fw_c (σ 93 3) → (0 ≤ fw_c (σ 93 5) ∧ fw_c (σ 93 5) < ((940 : Nat) : Int)) ∧ ((fw_c (σ 94 (fw_c (σ 93 5)).toNat) = fw_c 32 → G 39 [some (2, 93, 0), none, none, none, none] [] σ) ∧ (fw_c (σ 94 (fw_c (σ 93 5)).toNat) ≠ fw_c 32 → (0 ≤ fw_c (σ 93 5) ∧ fw_c (σ 93 5) < ((940 : Nat) : Int)) ∧ ((fw_c (σ 94 (fw_c (σ 93 5)).toNat) ≠ fw_c 10 → G 52 [some (2, 93, 0), none, none, none, none] [] σ) ∧ (fw_c (σ 94 (fw_c (σ 93 5)).toNat) = fw_c 10 → G 39 [some (2, 93, 0), none, none, none, none] [] σ)))))) : G 0 [some (2, 93, 0), none, none, none, none] [] σ := fw_on hG [0, 39, 52, 96, 127, 134, 174, 179, 198, 202, 215, 223, 226, 237, 240, 243, 263, 271, 272, 307, 337, 374] 200 h
theorem fs_m_go_52 {G : fw_K} {R : fw_KR} (hG : fw_cls st_m_go R G) {σ : ab_SG} (h : (fw_c (σ 93 3) ≤ fw_c (σ 93 4) → G 96 [some (2, 93, 0), none, none, none, none] [] (ab_ups σ 93 6 (fw_c (σ 93 5)))) ∧ (fw_c (σ 93 4) < fw_c (σ 93 3) → (fw_c (fw_c (σ 93 5)) < fw_c (σ 93 4) → G 96 [some (2, 93, 0), none, none, none, none] [] (ab_ups σ 93 6 (fw_c (σ 93 5)))) ∧ (fw_c (σ 93 4) ≤ fw_c (fw_c (σ 93 5)) → R none (ab_ups (ab_ups (ab_ups σ 93 6 (fw_c (σ 93 5))) 93 6 (fw_c (σ 93 4))) 93 7 (fw_c 1))))) : G 52 [some (2, 93, 0), none, none, none, none] [] σ := fw_on hG [0, 39, 52, 96, 127, 134, 174, 179, 198, 202, 215, 223, 226, 237, 240, 243, 263, 271, 272, 307, 337, 374] 200 h
theorem fs_m_go_39 {G : fw_K} {R : fw_KR} (hG : fw_cls st_m_go R G) {σ : ab_SG} (h : G 0 [some (2, 93, 0), none, none, none, none] [] (ab_ups σ 93 5 (fw_c ((σ 93 5) + 1)))) : G 39 [some (2, 93, 0), none, none, none, none] [] σ := fw_on hG [0, 39, 52, 96, 127, 134, 174, 179, 198, 202, 215, 223, 226, 237, 240, 243, 263, 271, 272, 307, 337, 374] 200 h
theorem fs_m_go_96 {G : fw_K} {R : fw_KR} (hG : fw_cls st_m_go R G) {σ : ab_SG} (h : (fw_c (σ 93 5) < fw_c (σ 93 3) → (0 ≤ fw_c (σ 93 5) ∧ fw_c (σ 93 5) < ((940 : Nat) : Int)) ∧ (sp_m_isLetter [(0, 0, σ 94 (fw_c (σ 93 5)).toNat)] σ (fun rv σ2 => G 127 [some (2, 93, 0), some (0, 0, σ 94 (fw_c (σ 93 5)).toNat), none, none, none] (rv.toList ++ []) σ2))) ∧ (fw_c (σ 93 3) ≤ fw_c (σ 93 5) → R none (ab_ups σ 93 7 (fw_c 0)))) : G 96 [some (2, 93, 0), none, none, none, none] [] σ := fw_on hG [0, 39, 52, 96, 127, 134, 174, 179, 198, 202, 215, 223, 226, 237, 240, 243, 263, 271, 272, 307, 337, 374] 200 h
theorem fs_m_go_127 {G : fw_K} {R : fw_KR} (hG : fw_cls st_m_go R G) {a1 b0 : Int} {σ : ab_SG} (h : (fw_c b0 ≠ 0 → G 198 [some (2, 93, 0), some (0, 0, a1), none, none, none] [] σ) ∧ (fw_c b0 = 0 → sp_m_isDigit [(0, 0, a1)] σ (fun rv σ2 => G 134 [some (2, 93, 0), some (0, 0, a1), none, none, none] (rv.toList ++ []) σ2))) : G 127 [some (2, 93, 0), some (0, 0, a1), none, none, none] [(0, 0, b0)] σ := fw_on hG [0, 39, 52, 96, 127, 134, 174, 179, 198, 202, 215, 223, 226, 237, 240, 243, 263, 271, 272, 307, 337, 374] 200 h
theorem fs_m_go_198 {G : fw_K} {R : fw_KR} (hG : fw_cls st_m_go R G) {a1 : Int} {σ : ab_SG} (h : sp_m_isLetter [(0, 0, a1)] σ (fun rv σ2 => G 202 [some (2, 93, 0), some (0, 0, a1), none, none, none] (rv.toList ++ []) σ2)) : G 198 [some (2, 93, 0), some (0, 0, a1), none, none, none] [] σ := fw_on hG [0, 39, 52, 96, 127, 134, 174, 179, 198, 202, 215, 223, 226, 237, 240, 243, 263, 271, 272, 307, 337, 374] 200 h
theorem fs_m_go_134 {G : fw_K} {R : fw_KR} (hG : fw_cls st_m_go R G) {a1 b0 : Int} {σ : ab_SG} (h : (fw_c b0 ≠ 0 → G 198 [some (2, 93, 0), some (0, 0, a1), none, none, none] [] σ) ∧ (fw_c b0 = 0 → (fw_c a1 = fw_c 59 → G 174 [some (2, 93, 0), some (0, 0, a1), none, none, none] [(2, 93, 0)] σ) ∧ (fw_c a1 ≠ fw_c 59 → (fw_c a1 = fw_c 60 → G 174 [some (2, 93, 0), some (0, 0, a1), none, none, none] [(2, 93, 0)] σ) ∧ (fw_c a1 ≠ fw_c 60 → (fw_c a1 = fw_c 61 → G 174 [some (2, 93, 0), some (0, 0, a1), none, none, none] [(2, 93, 0)] σ) ∧ (fw_c a1 ≠ fw_c 61 → (fw_c a1 = fw_c 62 → G 174 [some (2, 93, 0), some (0, 0, a1), none, none, none] [(2, 93, 0)] σ) ∧ (fw_c a1 ≠ fw_c 62 → (fw_c a1 = fw_c 40 → G 174 [some (2, 93, 0), some (0, 0, a1), none, none, none] [(2, 93, 0)] σ) ∧ (fw_c a1 ≠ fw_c 40 → (fw_c a1 ≠ fw_c 41 → G 179 [some (2, 93, 0), some (0, 0, a1), none, none, none] [(0, 0, 1), (2, 93, 0)] σ) ∧ (fw_c a1 = fw_c 41 → G 174 [some (2, 93, 0), some (0, 0, a1), none, none, none] [(2, 93, 0)] σ)))))))) : G 134 [some (2, 93, 0), some (0, 0, a1), none, none, none] [(0, 0, b0)] σ := fw_on hG [0, 39, 52, 96, 127, 134, 174, 179, 198, 202, 215, 223, 226, 237, 240, 243, 263, 271, 272, 307, 337, 374] 200 h
theorem fs_m_go_202 {G : fw_K} {R : fw_KR} (hG : fw_cls st_m_go R G) {a1 b0 : Int} {σ : ab_SG} (h : G 215 [some (2, 93, 0), some (0, 0, a1), some (0, 0, b0), some (0, 0, 1), none] [] (ab_ups (ab_ups σ 93 12 (fw_d ((0 : Nat) : Int))) 93 8 (fw_c 0))) : G 202 [some (2, 93, 0), some (0, 0, a1), none, none, none] [(0, 0, b0)] σ := fw_on hG [0, 39, 52, 96, 127, 134, 174, 179, 198, 202, 215, 223, 226, 237, 240, 243, 263, 271, 272, 307, 337, 374] 200 h
theorem fs_m_go_174 {G : fw_K} {R : fw_KR} (hG : fw_cls st_m_go R G) {a1 : Int} {σ : ab_SG} (h : G 179 [some (2, 93, 0), some (0, 0, a1), none, none, none] [(0, 0, 4), (2, 93, 0)] σ) : G 174 [some (2, 93, 0), some (0, 0, a1), none, none, none] [(2, 93, 0)] σ := fw_on hG [0, 39, 52, 96, 127, 134, 174, 179, 198, 202, 215, 223, 226, 237, 240, 243, 263, 271, 272, 307, 337, 374] 200 h
theorem fs_m_go_179 {G : fw_K} {R : fw_KR} (hG : fw_cls st_m_go R G) {a1 b0 : Int} {σ : ab_SG} (h : R none (ab_ups (ab_ups (ab_ups σ 93 7 (fw_c b0)) 93 9 (fw_c a1)) 93 5 (fw_c ((σ 93 5) + 1)))) : G 179 [some (2, 93, 0), some (0, 0, a1), none, none, none] [(0, 0, b0), (2, 93, 0)] σ := fw_on hG [0, 39, 52, 96, 127, 134, 174, 179, 198, 202, 215, 223, 226, 237, 240, 243, 263, 271, 272, 307, 337, 374] 200 h
theorem fs_m_go_215 {G : fw_K} {R : fw_KR} (hG : fw_cls st_m_go R G) {a1 a2 a3 : Int} {σ : ab_SG} (h : sp_m_tapeAt [(2, 93, 0), (0, 0, σ 93 5)] σ (fun rv σ2 => G 223 [some (2, 93, 0), some (0, 0, a1), some (0, 0, a2), some (0, 0, a3), none] (rv.toList ++ []) σ2)) : G 215 [some (2, 93, 0), some (0, 0, a1), some (0, 0, a2), some (0, 0, a3), none] [] σ := fw_on hG [0, 39, 52, 96, 127, 134, 174, 179, 198, 202, 215, 223, 226, 237, 240, 243, 263, 271, 272, 307, 337, 374] 200 h
theorem fs_m_go_223 {G : fw_K} {R : fw_KR} (hG : fw_cls st_m_go R G) {a1 a2 a3 b0 : Int} {σ : ab_SG} (h : sp_m_isLetter [(0, 0, b0)] σ (fun rv σ2 => G 226 [some (2, 93, 0), some (0, 0, a1), some (0, 0, a2), some (0, 0, a3), none] (rv.toList ++ []) σ2)) : G 223 [some (2, 93, 0), some (0, 0, a1), some (0, 0, a2), some (0, 0, a3), none] [(0, 0, b0)] σ := fw_on hG [0, 39, 52, 96, 127, 134, 174, 179, 198, 202, 215, 223, 226, 237, 240, 243, 263, 271, 272, 307, 337, 374] 200 h
theorem fs_m_go_226 {G : fw_K} {R : fw_KR} (hG : fw_cls st_m_go R G) {a1 a2 a3 b0 : Int} {σ : ab_SG} (h : (fw_c b0 ≠ 0 → G 243 [some (2, 93, 0), some (0, 0, a1), some (0, 0, a2), some (0, 0, a3), none] [] σ) ∧ (fw_c b0 = 0 → sp_m_tapeAt [(2, 93, 0), (0, 0, σ 93 5)] σ (fun rv σ2 => G 237 [some (2, 93, 0), some (0, 0, a1), some (0, 0, a2), some (0, 0, a3), none] (rv.toList ++ []) σ2))) : G 226 [some (2, 93, 0), some (0, 0, a1), some (0, 0, a2), some (0, 0, a3), none] [(0, 0, b0)] σ := fw_on hG [0, 39, 52, 96, 127, 134, 174, 179, 198, 202, 215, 223, 226, 237, 240, 243, 263, 271, 272, 307, 337, 374] 200 h
theorem fs_m_go_243 {G : fw_K} {R : fw_KR} (hG : fw_cls st_m_go R G) {a1 a2 a3 : Int} {σ : ab_SG} (h : (0 ≤ fw_c (σ 93 5) ∧ fw_c (σ 93 5) < ((940 : Nat) : Int)) ∧ ((fw_c a3 = 0 → G 271 [some (2, 93, 0), some (0, 0, a1), some (0, 0, a2), some (0, 0, a3), some (0, 0, σ 94 (fw_c (σ 93 5)).toNat)] [] σ) ∧ (fw_c a3 ≠ 0 → sp_m_isLetter [(0, 0, σ 94 (fw_c (σ 93 5)).toNat)] σ (fun rv σ2 => G 263 [some (2, 93, 0), some (0, 0, a1), some (0, 0, a2), some (0, 0, a3), some (0, 0, σ 94 (fw_c (σ 93 5)).toNat)] (rv.toList ++ []) σ2)))) : G 243 [some (2, 93, 0), some (0, 0, a1), some (0, 0, a2), some (0, 0, a3), none] [] σ := fw_on hG [0, 39, 52, 96, 127, 134, 174, 179, 198, 202, 215, 223, 226, 237, 240, 243, 263, 271, 272, 307, 337, 374] 200 h
theorem fs_m_go_237 {G : fw_K} {R : fw_KR} (hG : fw_cls st_m_go R G) {a1 a2 a3 b0 : Int} {σ : ab_SG} (h : sp_m_isDigit [(0, 0, b0)] σ (fun rv σ2 => G 240 [some (2, 93, 0), some (0, 0, a1), some (0, 0, a2), some (0, 0, a3), none] (rv.toList ++ []) σ2)) : G 237 [some (2, 93, 0), some (0, 0, a1), some (0, 0, a2), some (0, 0, a3), none] [(0, 0, b0)] σ := fw_on hG [0, 39, 52, 96, 127, 134, 174, 179, 198, 202, 215, 223, 226, 237, 240, 243, 263, 271, 272, 307, 337, 374] 200 h
theorem fs_m_go_271 {G : fw_K} {R : fw_KR} (hG : fw_cls st_m_go R G) {a1 a2 a3 a4 : Int} {σ : ab_SG} (h : G 272 [some (2, 93, 0), some (0, 0, a1), some (0, 0, a2), some (0, 0, a3), some (0, 0, a4)] [(0, 0, 0)] σ) : G 271 [some (2, 93, 0), some (0, 0, a1), some (0, 0, a2), some (0, 0, a3), some (0, 0, a4)] [] σ := fw_on hG [0, 39, 52, 96, 127, 134, 174, 179, 198, 202, 215, 223, 226, 237, 240, 243, 263, 271, 272, 307, 337, 374] 200 h
theorem fs_m_go_263 {G : fw_K} {R : fw_KR} (hG : fw_cls st_m_go R G) {a1 a2 a3 a4 b0 : Int} {σ : ab_SG} (h : (fw_c b0 ≠ fw_c a2 → G 271 [some (2, 93, 0), some (0, 0, a1), some (0, 0, a2), some (0, 0, a3), some (0, 0, a4)] [] σ) ∧ (fw_c b0 = fw_c a2 → G 272 [some (2, 93, 0), some (0, 0, a1), some (0, 0, a2), some (0, 0, a3), some (0, 0, a4)] [(0, 0, 1)] σ)) : G 263 [some (2, 93, 0), some (0, 0, a1), some (0, 0, a2), some (0, 0, a3), some (0, 0, a4)] [(0, 0, b0)] σ := fw_on hG [0, 39, 52, 96, 127, 134, 174, 179, 198, 202, 215, 223, 226, 237, 240, 243, 263, 271, 272, 307, 337, 374] 200 h
theorem fs_m_go_240 {G : fw_K} {R : fw_KR} (hG : fw_cls st_m_go R G) {a1 a2 a3 b0 : Int} {σ : ab_SG} (h : (fw_c b0 = 0 → (fw_c a3 = 0 → R none (ab_ups σ 93 7 (fw_c 1))) ∧ (fw_c a3 ≠ 0 → (fw_c a2 = 0 → G 374 [some (2, 93, 0), some (0, 0, a1), some (0, 0, a2), some (0, 0, a3), none] [(0, 0, 2), (0, 0, (σ 93 5) - (σ 93 6)), (2, 93, 0)] σ) ∧ (fw_c a2 ≠ 0 → G 374 [some (2, 93, 0), some (0, 0, a1), some (0, 0, a2), some (0, 0, a3), none] [(0, 0, 7), (0, 0, (σ 93 5) - (σ 93 6)), (2, 93, 0)] σ))) ∧ (fw_c b0 ≠ 0 → G 243 [some (2, 93, 0), some (0, 0, a1), some (0, 0, a2), some (0, 0, a3), none] [] σ)) : G 240 [some (2, 93, 0), some (0, 0, a1), some (0, 0, a2), some (0, 0, a3), none] [(0, 0, b0)] σ := fw_on hG [0, 39, 52, 96, 127, 134, 174, 179, 198, 202, 215, 223, 226, 237, 240, 243, 263, 271, 272, 307, 337, 374] 200 h
theorem fs_m_go_272 {G : fw_K} {R : fw_KR} (hG : fw_cls st_m_go R G) {a1 a2 a3 a4 b0 : Int} {σ : ab_SG} (h : (fw_c 7 ≤ fw_c ((σ 93 5) - (σ 93 6)) → G 307 [some (2, 93, 0), some (0, 0, a1), some (0, 0, a2), some (0, 0, b0), some (0, 0, a4)] [] σ) ∧ (fw_c ((σ 93 5) - (σ 93 6)) < fw_c 7 → G 307 [some (2, 93, 0), some (0, 0, a1), some (0, 0, a2), some (0, 0, b0), some (0, 0, a4)] [] (ab_ups σ 93 12 (fw_d (((27 * (σ 93 12)) + (fw_c a4)) - 96))))) : G 272 [some (2, 93, 0), some (0, 0, a1), some (0, 0, a2), some (0, 0, a3), some (0, 0, a4)] [(0, 0, b0)] σ := fw_on hG [0, 39, 52, 96, 127, 134, 174, 179, 198, 202, 215, 223, 226, 237, 240, 243, 263, 271, 272, 307, 337, 374] 200 h
theorem fs_m_go_374 {G : fw_K} {R : fw_KR} (hG : fw_cls st_m_go R G) {a1 a2 a3 b0 b1 : Int} {σ : ab_SG} (h : (fw_c b1 ≤ fw_c b0 → (fw_c a2 = 0 → R none (ab_ups σ 93 7 (fw_c 3))) ∧ (fw_c a2 ≠ 0 → R none (ab_ups σ 93 7 (fw_c 2)))) ∧ (fw_c b0 < fw_c b1 → R none (ab_ups σ 93 7 (fw_c 1)))) : G 374 [some (2, 93, 0), some (0, 0, a1), some (0, 0, a2), some (0, 0, a3), none] [(0, 0, b0), (0, 0, b1), (2, 93, 0)] σ := fw_on hG [0, 39, 52, 96, 127, 134, 174, 179, 198, 202, 215, 223, 226, 237, 240, 243, 263, 271, 272, 307, 337, 374] 200 h
theorem fs_m_go_307 {G : fw_K} {R : fw_KR} (hG : fw_cls st_m_go R G) {a1 a2 a3 a4 : Int} {σ : ab_SG} (h : (fw_c 2 ≤ fw_c ((σ 93 5) - (σ 93 6)) → G 337 [some (2, 93, 0), some (0, 0, a1), some (0, 0, a2), some (0, 0, a3), some (0, 0, a4)] [] σ) ∧ (fw_c ((σ 93 5) - (σ 93 6)) < fw_c 2 → G 337 [some (2, 93, 0), some (0, 0, a1), some (0, 0, a2), some (0, 0, a3), some (0, 0, a4)] [] (ab_ups σ 93 8 (fw_c (((10 * (σ 93 8)) + a4) - 48))))) : G 307 [some (2, 93, 0), some (0, 0, a1), some (0, 0, a2), some (0, 0, a3), some (0, 0, a4)] [] σ := fw_on hG [0, 39, 52, 96, 127, 134, 174, 179, 198, 202, 215, 223, 226, 237, 240, 243, 263, 271, 272, 307, 337, 374] 200 h
theorem fs_m_go_337 {G : fw_K} {R : fw_KR} (hG : fw_cls st_m_go R G) {a1 a2 a3 a4 : Int} {σ : ab_SG} (h : G 215 [some (2, 93, 0), some (0, 0, a1), some (0, 0, a2), some (0, 0, a3), some (0, 0, a4)] [] (ab_ups σ 93 5 (fw_c ((σ 93 5) + 1)))) : G 337 [some (2, 93, 0), some (0, 0, a1), some (0, 0, a2), some (0, 0, a3), some (0, 0, a4)] [] σ := fw_on hG [0, 39, 52, 96, 127, 134, 174, 179, 198, 202, 215, 223, 226, 237, 240, 243, 263, 271, 272, 307, 337, 374] 200 h
theorem fs_m_go_215a {G : fw_K} {R : fw_KR} (hG : fw_cls st_m_go R G) {a1 a2 a3 a4 : Int} {σ : ab_SG} (h : sp_m_tapeAt [(2, 93, 0), (0, 0, σ 93 5)] σ (fun rv σ2 => G 223 [some (2, 93, 0), some (0, 0, a1), some (0, 0, a2), some (0, 0, a3), some (0, 0, a4)] (rv.toList ++ []) σ2)) : G 215 [some (2, 93, 0), some (0, 0, a1), some (0, 0, a2), some (0, 0, a3), some (0, 0, a4)] [] σ := fw_on hG [0, 39, 52, 96, 127, 134, 174, 179, 198, 202, 215, 223, 226, 237, 240, 243, 263, 271, 272, 307, 337, 374] 200 h
theorem fs_m_go_223a {G : fw_K} {R : fw_KR} (hG : fw_cls st_m_go R G) {a1 a2 a3 a4 b0 : Int} {σ : ab_SG} (h : sp_m_isLetter [(0, 0, b0)] σ (fun rv σ2 => G 226 [some (2, 93, 0), some (0, 0, a1), some (0, 0, a2), some (0, 0, a3), some (0, 0, a4)] (rv.toList ++ []) σ2)) : G 223 [some (2, 93, 0), some (0, 0, a1), some (0, 0, a2), some (0, 0, a3), some (0, 0, a4)] [(0, 0, b0)] σ := fw_on hG [0, 39, 52, 96, 127, 134, 174, 179, 198, 202, 215, 223, 226, 237, 240, 243, 263, 271, 272, 307, 337, 374] 200 h
theorem fs_m_go_226a {G : fw_K} {R : fw_KR} (hG : fw_cls st_m_go R G) {a1 a2 a3 a4 b0 : Int} {σ : ab_SG} (h : (fw_c b0 ≠ 0 → G 243 [some (2, 93, 0), some (0, 0, a1), some (0, 0, a2), some (0, 0, a3), some (0, 0, a4)] [] σ) ∧ (fw_c b0 = 0 → sp_m_tapeAt [(2, 93, 0), (0, 0, σ 93 5)] σ (fun rv σ2 => G 237 [some (2, 93, 0), some (0, 0, a1), some (0, 0, a2), some (0, 0, a3), some (0, 0, a4)] (rv.toList ++ []) σ2))) : G 226 [some (2, 93, 0), some (0, 0, a1), some (0, 0, a2), some (0, 0, a3), some (0, 0, a4)] [(0, 0, b0)] σ := fw_on hG [0, 39, 52, 96, 127, 134, 174, 179, 198, 202, 215, 223, 226, 237, 240, 243, 263, 271, 272, 307, 337, 374] 200 h
theorem fs_m_go_243a {G : fw_K} {R : fw_KR} (hG : fw_cls st_m_go R G) {a1 a2 a3 a4 : Int} {σ : ab_SG} (h : (0 ≤ fw_c (σ 93 5) ∧ fw_c (σ 93 5) < ((940 : Nat) : Int)) ∧ ((fw_c a3 = 0 → G 271 [some (2, 93, 0), some (0, 0, a1), some (0, 0, a2), some (0, 0, a3), some (0, 0, σ 94 (fw_c (σ 93 5)).toNat)] [] σ) ∧ (fw_c a3 ≠ 0 → sp_m_isLetter [(0, 0, σ 94 (fw_c (σ 93 5)).toNat)] σ (fun rv σ2 => G 263 [some (2, 93, 0), some (0, 0, a1), some (0, 0, a2), some (0, 0, a3), some (0, 0, σ 94 (fw_c (σ 93 5)).toNat)] (rv.toList ++ []) σ2)))) : G 243 [some (2, 93, 0), some (0, 0, a1), some (0, 0, a2), some (0, 0, a3), some (0, 0, a4)] [] σ := fw_on hG [0, 39, 52, 96, 127, 134, 174, 179, 198, 202, 215, 223, 226, 237, 240, 243, 263, 271, 272, 307, 337, 374] 200 h
theorem fs_m_go_237a {G : fw_K} {R : fw_KR} (hG : fw_cls st_m_go R G) {a1 a2 a3 a4 b0 : Int} {σ : ab_SG} (h : sp_m_isDigit [(0, 0, b0)] σ (fun rv σ2 => G 240 [some (2, 93, 0), some (0, 0, a1), some (0, 0, a2), some (0, 0, a3), some (0, 0, a4)] (rv.toList ++ []) σ2)) : G 237 [some (2, 93, 0), some (0, 0, a1), some (0, 0, a2), some (0, 0, a3), some (0, 0, a4)] [(0, 0, b0)] σ := fw_on hG [0, 39, 52, 96, 127, 134, 174, 179, 198, 202, 215, 223, 226, 237, 240, 243, 263, 271, 272, 307, 337, 374] 200 h
theorem fs_m_go_240a {G : fw_K} {R : fw_KR} (hG : fw_cls st_m_go R G) {a1 a2 a3 a4 b0 : Int} {σ : ab_SG} (h : (fw_c b0 = 0 → (fw_c a3 = 0 → R none (ab_ups σ 93 7 (fw_c 1))) ∧ (fw_c a3 ≠ 0 → (fw_c a2 = 0 → G 374 [some (2, 93, 0), some (0, 0, a1), some (0, 0, a2), some (0, 0, a3), some (0, 0, a4)] [(0, 0, 2), (0, 0, (σ 93 5) - (σ 93 6)), (2, 93, 0)] σ) ∧ (fw_c a2 ≠ 0 → G 374 [some (2, 93, 0), some (0, 0, a1), some (0, 0, a2), some (0, 0, a3), some (0, 0, a4)] [(0, 0, 7), (0, 0, (σ 93 5) - (σ 93 6)), (2, 93, 0)] σ))) ∧ (fw_c b0 ≠ 0 → G 243 [some (2, 93, 0), some (0, 0, a1), some (0, 0, a2), some (0, 0, a3), some (0, 0, a4)] [] σ)) : G 240 [some (2, 93, 0), some (0, 0, a1), some (0, 0, a2), some (0, 0, a3), some (0, 0, a4)] [(0, 0, b0)] σ := fw_on hG [0, 39, 52, 96, 127, 134, 174, 179, 198, 202, 215, 223, 226, 237, 240, 243, 263, 271, 272, 307, 337, 374] 200 h
theorem fs_m_go_374a {G : fw_K} {R : fw_KR} (hG : fw_cls st_m_go R G) {a1 a2 a3 a4 b0 b1 : Int} {σ : ab_SG} (h : (fw_c b1 ≤ fw_c b0 → (fw_c a2 = 0 → R none (ab_ups σ 93 7 (fw_c 3))) ∧ (fw_c a2 ≠ 0 → R none (ab_ups σ 93 7 (fw_c 2)))) ∧ (fw_c b0 < fw_c b1 → R none (ab_ups σ 93 7 (fw_c 1)))) : G 374 [some (2, 93, 0), some (0, 0, a1), some (0, 0, a2), some (0, 0, a3), some (0, 0, a4)] [(0, 0, b0), (0, 0, b1), (2, 93, 0)] σ := fw_on hG [0, 39, 52, 96, 127, 134, 174, 179, 198, 202, 215, 223, 226, 237, 240, 243, 263, 271, 272, 307, 337, 374] 200 h
theorem mg_skip {G : fw_K} {K : fw_KR} (hG : fw_cls st_m_go K G) {σ0 : ab_SG} {t : Nat → Int} {n : Nat} (hn : n ≤ 940) (h3 : σ0 93 3 = (n : Int)) (ht : ∀ j : Nat, j < n → σ0 94 j = t j ∧ 0 ≤ t j ∧ t j ≤ 255) : ∀ (f p : Nat) (σ : ab_SG), p + f = n → ab_okM go_M σ0 σ → σ 93 5 = (p : Int) →
    (∀ σ' : ab_SG, ab_okM go_M σ0 σ' → σ' 93 5 = ((tk_sk t f p : Nat) : Int) → G 52 [some (2, 93, 0), none, none, none, none] [] σ') → G 0 [some (2, 93, 0), none, none, none, none] [] σ := by
  intro f
  have e32 : fw_c 32 = 32 := fw_c_id (by decide) (by decide)
  have e10 : fw_c 10 = 10 := fw_c_id (by decide) (by decide)
  have en : fw_c (n : Int) = n := fw_c_id (by omega) (by omega)
  induction f with
  | zero =>
    intro p σ hp hM h5 k
    have ep : fw_c (p : Int) = p := fw_c_id (by omega) (by omega)
    refine fs_m_go_0 hG ?_
    rw [h5, (hM 93 3 (by decide)).trans h3, en, ep]
    exact ⟨fun _ => k σ hM h5, fun q => absurd q (by omega)⟩
  | succ f ih =>
    intro p σ hp hM h5 k
    have ep : fw_c (p : Int) = p := fw_c_id (by omega) (by omega)
    have hb := ht p (by omega)
    have e94 : σ 94 p = t p := by rw [fw_okM_c hM (a := 94) (by decide)]; exact hb.1
    have et : fw_c (t p) = t p := fw_c_id (by omega) (by omega)
    replace k : ∀ σ' : ab_SG, ab_okM go_M σ0 σ' → σ' 93 5 = ((if t p = 32 ∨ t p = 10 then tk_sk t f (p + 1) else p : Nat) : Int) → G 52 [some (2, 93, 0), none, none, none, none] [] σ' := k
    have at39 : (t p = 32 ∨ t p = 10) → G 39 [some (2, 93, 0), none, none, none, none] [] σ := fun q => by
      rw [if_pos q] at k
      refine fs_m_go_39 hG ?_
      have e1 : fw_c (σ 93 5 + 1) = ((p + 1 : Nat) : Int) := by rw [h5, fw_c_id (by omega) (by omega)]; rfl
      rw [e1]
      exact ih (p + 1) _ (by omega) (fw_okM_ups hM (by decide)) ab_ups_eq k
    refine fs_m_go_0 hG ?_
    rw [h5, (hM 93 3 (by decide)).trans h3, en, ep, Int.toNat_natCast, e94, et, e32, e10]
    refine ⟨fun q => absurd q (by omega), fun _ => ⟨⟨Int.natCast_nonneg p, by show (p : Int) < 940; omega⟩, fun q => at39 (Or.inl q), fun q => ⟨⟨Int.natCast_nonneg p, by show (p : Int) < 940; omega⟩, fun q2 => ?_, fun q2 => at39 (Or.inr q2)⟩⟩⟩
    rw [if_neg (fun z => z.elim q q2)] at k
    exact k σ hM h5
/-- a run: from the loop's head on -/
theorem mg_run {G : fw_K} {K : fw_KR} (hG : fw_cls st_m_go K G) {σ0 : ab_SG} {t : Nat → Int} {n q : Nat} (hn : n ≤ 940) (h3 : σ0 93 3 = (n : Int)) (ht : ∀ j : Nat, j < n → σ0 94 j = t j ∧ 0 ≤ t j ∧ t j ≤ 255) {L : Prop} [Decidable L] {a1 : Int} :
    ∀ (f p : Nat) (σ : ab_SG) (s : tk_S) (g : Prop) [Decidable g] (L4 : Option Int), p + f = n → q ≤ p → ab_okM go_M σ0 σ → σ 93 5 = (p : Int) → σ 93 6 = (q : Int) → rf_is L q p s g (σ 93 12) (σ 93 8) → (p = q → p < n ∧ (L → 97 ≤ t p ∧ t p ≤ 122) ∧ (¬ L → 48 ≤ t p ∧ t p ≤ 57)) →
    (∀ (σ' : ab_SG), ab_okM go_M σ0 σ' → mg_is σ' (tk_rt q (tk_run t f p s)) → K none σ') →
    G 215 [some (2, 93, 0), some (0, 0, a1), some (0, 0, fw_bo L), some (0, 0, fw_bo g), L4.map fun b => (0, 0, b)] [] σ := by
  intro f
  have c7 : fw_c 7 = 7 := fw_c_id (by decide) (by decide)
  have c2 : fw_c 2 = 2 := fw_c_id (by decide) (by decide)
  have c3 : fw_c 3 = 3 := fw_c_id (by decide) (by decide)
  -- the pieces, whatever lies in the last local
  have s215 : ∀ (L4 : Option Int) (a2 a3 : Int) (σ : ab_SG), sp_m_tapeAt [(2, 93, 0), (0, 0, σ 93 5)] σ (fun rv σ2 => G 223 [some (2, 93, 0), some (0, 0, a1), some (0, 0, a2), some (0, 0, a3), L4.map fun b => (0, 0, b)] (rv.toList ++ []) σ2) → G 215 [some (2, 93, 0), some (0, 0, a1), some (0, 0, a2), some (0, 0, a3), L4.map fun b => (0, 0, b)] [] σ := fun L4 a2 a3 σ h => by
    cases L4 with
    | none => exact fs_m_go_215 hG h
    | some b => exact fs_m_go_215a hG h
  have s223 : ∀ (L4 : Option Int) (a2 a3 b0 : Int) (σ : ab_SG), sp_m_isLetter [(0, 0, b0)] σ (fun rv σ2 => G 226 [some (2, 93, 0), some (0, 0, a1), some (0, 0, a2), some (0, 0, a3), L4.map fun b => (0, 0, b)] (rv.toList ++ []) σ2) → G 223 [some (2, 93, 0), some (0, 0, a1), some (0, 0, a2), some (0, 0, a3), L4.map fun b => (0, 0, b)] [(0, 0, b0)] σ := fun L4 a2 a3 b0 σ h => by
    cases L4 with
    | none => exact fs_m_go_223 hG h
    | some b => exact fs_m_go_223a hG h
  have s226 : ∀ (L4 : Option Int) (a2 a3 b0 : Int) (σ : ab_SG), (fw_c b0 ≠ 0 → G 243 [some (2, 93, 0), some (0, 0, a1), some (0, 0, a2), some (0, 0, a3), L4.map fun b => (0, 0, b)] [] σ) ∧ (fw_c b0 = 0 → sp_m_tapeAt [(2, 93, 0), (0, 0, σ 93 5)] σ (fun rv σ2 => G 237 [some (2, 93, 0), some (0, 0, a1), some (0, 0, a2), some (0, 0, a3), L4.map fun b => (0, 0, b)] (rv.toList ++ []) σ2)) → G 226 [some (2, 93, 0), some (0, 0, a1), some (0, 0, a2), some (0, 0, a3), L4.map fun b => (0, 0, b)] [(0, 0, b0)] σ := fun L4 a2 a3 b0 σ h => by
    cases L4 with
    | none => exact fs_m_go_226 hG h
    | some b => exact fs_m_go_226a hG h
  have s237 : ∀ (L4 : Option Int) (a2 a3 b0 : Int) (σ : ab_SG), sp_m_isDigit [(0, 0, b0)] σ (fun rv σ2 => G 240 [some (2, 93, 0), some (0, 0, a1), some (0, 0, a2), some (0, 0, a3), L4.map fun b => (0, 0, b)] (rv.toList ++ []) σ2) → G 237 [some (2, 93, 0), some (0, 0, a1), some (0, 0, a2), some (0, 0, a3), L4.map fun b => (0, 0, b)] [(0, 0, b0)] σ := fun L4 a2 a3 b0 σ h => by
    cases L4 with
    | none => exact fs_m_go_237 hG h
    | some b => exact fs_m_go_237a hG h
  have s374 : ∀ (L4 : Option Int) (a2 a3 b0 b1 : Int) (σ : ab_SG), (fw_c b1 ≤ fw_c b0 → (fw_c a2 = 0 → K none (ab_ups σ 93 7 (fw_c 3))) ∧ (fw_c a2 ≠ 0 → K none (ab_ups σ 93 7 (fw_c 2)))) ∧ (fw_c b0 < fw_c b1 → K none (ab_ups σ 93 7 (fw_c 1))) → G 374 [some (2, 93, 0), some (0, 0, a1), some (0, 0, a2), some (0, 0, a3), L4.map fun b => (0, 0, b)] [(0, 0, b0), (0, 0, b1), (2, 93, 0)] σ := fun L4 a2 a3 b0 b1 σ h => by
    cases L4 with
    | none => exact fs_m_go_374 hG h
    | some b => exact fs_m_go_374a hG h
  have s240 : ∀ (L4 : Option Int) (a2 a3 b0 : Int) (σ : ab_SG), (fw_c b0 = 0 → (fw_c a3 = 0 → K none (ab_ups σ 93 7 (fw_c 1))) ∧ (fw_c a3 ≠ 0 → (fw_c a2 = 0 → G 374 [some (2, 93, 0), some (0, 0, a1), some (0, 0, a2), some (0, 0, a3), L4.map fun b => (0, 0, b)] [(0, 0, 2), (0, 0, σ 93 5 - σ 93 6), (2, 93, 0)] σ) ∧ (fw_c a2 ≠ 0 → G 374 [some (2, 93, 0), some (0, 0, a1), some (0, 0, a2), some (0, 0, a3), L4.map fun b => (0, 0, b)] [(0, 0, 7), (0, 0, σ 93 5 - σ 93 6), (2, 93, 0)] σ))) ∧ (fw_c b0 ≠ 0 → G 243 [some (2, 93, 0), some (0, 0, a1), some (0, 0, a2), some (0, 0, a3), L4.map fun b => (0, 0, b)] [] σ) → G 240 [some (2, 93, 0), some (0, 0, a1), some (0, 0, a2), some (0, 0, a3), L4.map fun b => (0, 0, b)] [(0, 0, b0)] σ := fun L4 a2 a3 b0 σ h => by
    cases L4 with
    | none => exact fs_m_go_240 hG h
    | some b => exact fs_m_go_240a hG h
  have s243 : ∀ (L4 : Option Int) (a2 a3 : Int) (σ : ab_SG), (0 ≤ fw_c (σ 93 5) ∧ fw_c (σ 93 5) < ((940 : Nat) : Int)) ∧ ((fw_c a3 = 0 → G 271 [some (2, 93, 0), some (0, 0, a1), some (0, 0, a2), some (0, 0, a3), some (0, 0, σ 94 (fw_c (σ 93 5)).toNat)] [] σ) ∧ (fw_c a3 ≠ 0 → sp_m_isLetter [(0, 0, σ 94 (fw_c (σ 93 5)).toNat)] σ (fun rv σ2 => G 263 [some (2, 93, 0), some (0, 0, a1), some (0, 0, a2), some (0, 0, a3), some (0, 0, σ 94 (fw_c (σ 93 5)).toNat)] (rv.toList ++ []) σ2))) → G 243 [some (2, 93, 0), some (0, 0, a1), some (0, 0, a2), some (0, 0, a3), L4.map fun b => (0, 0, b)] [] σ := fun L4 a2 a3 σ h => by
    cases L4 with
    | none => exact fs_m_go_243 hG h
    | some b => exact fs_m_go_243a hG h
  -- the run's end
  have fin : ∀ (p : Nat) (σ : ab_SG) (s : tk_S) (g : Prop) [Decidable g] (L4 : Option Int), p ≤ n → q < p → ab_okM go_M σ0 σ → σ 93 5 = (p : Int) → σ 93 6 = (q : Int) → rf_is L q p s g (σ 93 12) (σ 93 8) → (∀ (σ' : ab_SG), ab_okM go_M σ0 σ' → mg_is σ' (tk_rt q (p, s)) → K none σ') →
      (fw_c (fw_bo g) = 0 → K none (ab_ups σ 93 7 (fw_c 1))) ∧ (fw_c (fw_bo g) ≠ 0 → (fw_c (fw_bo L) = 0 → G 374 [some (2, 93, 0), some (0, 0, a1), some (0, 0, fw_bo L), some (0, 0, fw_bo g), L4.map fun b => (0, 0, b)] [(0, 0, 2), (0, 0, σ 93 5 - σ 93 6), (2, 93, 0)] σ) ∧ (fw_c (fw_bo L) ≠ 0 → G 374 [some (2, 93, 0), some (0, 0, a1), some (0, 0, fw_bo L), some (0, 0, fw_bo g), L4.map fun b => (0, 0, b)] [(0, 0, 7), (0, 0, σ 93 5 - σ 93 6), (2, 93, 0)] σ)) := by
    intro p σ s g _ L4 hpn hqp hM h5 h6 I k
    obtain ⟨⟨i1, i2, i3⟩, hg, hf, hw, hnm⟩ := I
    have hf := hf hqp
    have wrong : ¬ (s.2.1 = 0 ∧ s.1 ≤ 7) → ¬ (s.1 = 0 ∧ s.2.1 ≤ 2) → K none (ab_ups σ 93 7 (fw_c 1)) := fun a b => by
      rw [fw_c1]
      refine k _ (fw_okM_ups hM (by decide)) ?_
      unfold tk_rt
      rw [if_neg a, if_neg b]
      refine ⟨(ab_ups_ne (by decide)).trans h6, (ab_ups_ne (by decide)).trans h5, fun z => absurd z (by show ¬ (1 : Int) = 0; decide), fun _ => ab_ups_eq, fun z => absurd z (by show ¬ (1 : Int) = 2; decide), fun z => absurd z (by show ¬ (1 : Int) = 3; decide), fun z => absurd z (by show ¬ ((1 : Int) = 59 ∨ (60 ≤ (1 : Int) ∧ (1 : Int) ≤ 62) ∨ (1 : Int) = 40 ∨ (1 : Int) = 41); decide)⟩
    have ed : fw_c (σ 93 5 - σ 93 6) = (p : Int) - q := by rw [h5, h6]; exact fw_c_id (by omega) (by omega)
    refine ⟨fun z => ?_, fun z => ⟨fun y => ?_, fun y => ?_⟩⟩
    · have z := fw_bo_eq z
      refine wrong (fun a => z (hg.mpr ?_)) (fun a => z (hg.mpr ?_))
      · by_cases l : L
        · exact Or.inl ⟨l, a.1⟩
        · have := hf.2 l; omega
      · by_cases l : L
        · have := hf.1 l; omega
        · exact Or.inr ⟨l, a.1⟩
    · have l := fw_bo_eq y
      have h0 : s.1 = 0 := by
        rcases hg.mp (fw_bo_ne z) with a | a
        · exact absurd a.1 l
        · exact a.2
      have h1 := hf.2 l
      refine s374 L4 _ _ 2 _ σ ?_
      rw [ed, c2, c3]
      refine ⟨fun d => ⟨fun _ => ?_, fun y2 => absurd y y2⟩, fun d => wrong (fun a => by omega) (fun a => by omega)⟩
      have hm := hnm h0
      refine k _ (fw_okM_ups hM (by decide)) ?_
      unfold tk_rt
      rw [if_neg (show ¬ (s.2.1 = 0 ∧ s.1 ≤ 7) from fun a => by omega), if_pos (show s.1 = 0 ∧ s.2.1 ≤ 2 from ⟨h0, by omega⟩)]
      have e8 : (ab_ups σ 93 7 3) 93 8 = σ 93 8 := ab_ups_ne (by decide)
      refine ⟨(ab_ups_ne (by decide)).trans h6, (ab_ups_ne (by decide)).trans h5, fun z => absurd z (by show ¬ (3 : Int) = 0; decide), fun z => absurd z (by show ¬ ((3 : Int) = 1 ∨ (3 : Int) = 46); decide), fun z => absurd z (by show ¬ (3 : Int) = 2; decide), fun _ => ⟨ab_ups_eq, ?_, ?_, ?_⟩, fun z => absurd z (by show ¬ ((3 : Int) = 59 ∨ (60 ≤ (3 : Int) ∧ (3 : Int) ≤ 62) ∨ (3 : Int) = 40 ∨ (3 : Int) = 41); decide)⟩
      · rw [e8]; show σ 93 8 = s.2.2.2; omega
      · show 0 ≤ s.2.2.2; omega
      · show s.2.2.2 ≤ 99; omega
    · have l := fw_bo_ne y
      have h0 : s.2.1 = 0 := by
        rcases hg.mp (fw_bo_ne z) with a | a
        · exact a.2
        · exact absurd l a.1
      have h1 := hf.1 l
      refine s374 L4 _ _ 7 _ σ ?_
      rw [ed, c7, c2]
      refine ⟨fun d => ⟨fun y2 => absurd y2 y, fun _ => ?_⟩, fun d => wrong (fun a => by omega) (fun a => by omega)⟩
      have hk := hw h0 (by omega)
      have hk7 := (rf_ok_le (m := 7) (by omega) hk.1).1
      refine k _ (fw_okM_ups hM (by decide)) ?_
      unfold tk_rt
      rw [if_pos (show s.2.1 = 0 ∧ s.1 ≤ 7 from ⟨h0, by omega⟩)]
      have e12 : (ab_ups σ 93 7 2) 93 12 = σ 93 12 := ab_ups_ne (by decide)
      refine ⟨(ab_ups_ne (by decide)).trans h6, (ab_ups_ne (by decide)).trans h5, fun z => absurd z (by show ¬ (2 : Int) = 0; decide), fun z => absurd z (by show ¬ ((2 : Int) = 1 ∨ (2 : Int) = 46); decide), fun _ => ⟨ab_ups_eq, hk7, e12.trans hk.2⟩, fun z => absurd z (by show ¬ (2 : Int) = 3; decide), fun z => absurd z (by show ¬ ((2 : Int) = 59 ∨ (60 ≤ (2 : Int) ∧ (2 : Int) ≤ 62) ∨ (2 : Int) = 40 ∨ (2 : Int) = 41); decide)⟩
  induction f with
  | zero =>
    intro p σ s g _ L4 hp hqp hM h5 h6 I h0 k
    have hlt : q < p := by
      rcases Nat.lt_or_ge q p with a | a
      · exact a
      · have := (h0 (by omega)).1; omega
    have n3 : σ 93 3 = (n : Int) := (hM 93 3 (by decide)).trans h3
    refine s215 L4 _ _ σ ⟨_, rfl, by omega, s223 L4 _ _ _ σ ⟨_, rfl, ?_⟩⟩
    rw [if_neg (show ¬ σ 93 5 < σ 93 3 by omega), fw_c0]
    refine s226 L4 _ _ _ σ ⟨fun z => absurd (fw_bo_ne z) (by decide), fun _ => ⟨_, rfl, by omega, s237 L4 _ _ _ σ ⟨_, rfl, ?_⟩⟩⟩
    rw [if_neg (show ¬ σ 93 5 < σ 93 3 by omega), fw_c0]
    exact s240 L4 _ _ _ σ ⟨fun _ => fin p σ s g L4 (by omega) hlt hM h5 h6 I k, fun z => absurd (fw_bo_ne z) (by decide)⟩
  | succ f ih =>
    intro p σ s g _ L4 hp hqp hM h5 h6 I h0 k
    have n3 : σ 93 3 = (n : Int) := (hM 93 3 (by decide)).trans h3
    have hb := ht p (by omega)
    have e94 : σ 94 p = t p := by rw [fw_okM_c hM (a := 94) (by decide)]; exact hb.1
    have et : fw_c (t p) = t p := fw_c_id (by omega) (by omega)
    have ep : fw_c (p : Int) = p := fw_c_id (by omega) (by omega)
    have e5 : (σ 93 5).toNat = p := by omega
    unfold tk_run at k
    -- behind the byte: good, word, number
    have nx : ∀ (g' : Prop) [Decidable g'] (s' : tk_S), (∀ w' n' : Int, ((p : Int) - q < 7 → w' = fw_d (27 * σ 93 12 + fw_c (t p) - 96)) → ((p : Int) - q < 2 → n' = fw_c (10 * σ 93 8 + t p - 48)) → rf_is L q (p + 1) s' g' w' n') → (∀ (σ' : ab_SG), ab_okM go_M σ0 σ' → mg_is σ' (tk_rt q (tk_run t f (p + 1) s')) → K none σ') →
        G 272 [some (2, 93, 0), some (0, 0, a1), some (0, 0, fw_bo L), some (0, 0, fw_bo g), some (0, 0, t p)] [(0, 0, fw_bo g')] σ := by
      intro g' _ s' I' k'
      have ed : fw_c (σ 93 5 - σ 93 6) = (p : Int) - q := by rw [h5, h6]; exact fw_c_id (by omega) (by omega)
      have at307 : ∀ σ1 : ab_SG, ab_okM go_M σ0 σ1 → σ1 93 5 = (p : Int) → σ1 93 6 = (q : Int) → σ1 93 8 = σ 93 8 → ((p : Int) - q < 7 → σ1 93 12 = fw_d (27 * σ 93 12 + fw_c (t p) - 96)) → G 307 [some (2, 93, 0), some (0, 0, a1), some (0, 0, fw_bo L), some (0, 0, fw_bo g'), some (0, 0, t p)] [] σ1 := by
        intro σ1 M1 q5 q6 q8 q12
        have ed1 : fw_c (σ1 93 5 - σ1 93 6) = (p : Int) - q := by rw [q5, q6]; exact fw_c_id (by omega) (by omega)
        have at337 : ∀ σ2 : ab_SG, ab_okM go_M σ0 σ2 → σ2 93 5 = (p : Int) → σ2 93 6 = (q : Int) → ((p : Int) - q < 2 → σ2 93 8 = fw_c (10 * σ 93 8 + t p - 48)) → ((p : Int) - q < 7 → σ2 93 12 = fw_d (27 * σ 93 12 + fw_c (t p) - 96)) → G 337 [some (2, 93, 0), some (0, 0, a1), some (0, 0, fw_bo L), some (0, 0, fw_bo g'), some (0, 0, t p)] [] σ2 := by
          intro σ2 M2 r5 r6 r8 r12
          refine fs_m_go_337 hG ?_
          have e1 : fw_c (σ2 93 5 + 1) = ((p + 1 : Nat) : Int) := by rw [r5, fw_c_id (by omega) (by omega)]; rfl
          rw [e1]
          refine ih (p + 1) _ s' g' (some (t p)) (by omega) (by omega) (fw_okM_ups M2 (by decide)) ab_ups_eq ((ab_ups_ne (by decide)).trans r6) ?_ (fun z => by omega) k'
          rw [ab_ups_ne (by decide), ab_ups_ne (by decide)]
          exact I' _ _ r12 r8
        refine fs_m_go_307 hG ?_
        rw [ed1, c2, q8]
        exact ⟨fun z => at337 σ1 M1 q5 q6 (fun y => by omega) q12, fun z => at337 _ (fw_okM_ups M1 (by decide)) ((ab_ups_ne (by decide)).trans q5) ((ab_ups_ne (by decide)).trans q6) (fun _ => ab_ups_eq) (fun y => (ab_ups_ne (by decide)).trans (q12 y))⟩
      refine fs_m_go_272 hG ?_
      rw [ed, c7]
      exact ⟨fun z => at307 σ hM h5 h6 rfl (fun y => by omega), fun z => at307 _ (fw_okM_ups hM (by decide)) ((ab_ups_ne (by decide)).trans h5) ((ab_ups_ne (by decide)).trans h6) (ab_ups_ne (by decide)) (fun _ => ab_ups_eq)⟩
    have at243 : (97 ≤ t p ∧ t p ≤ 122) ∨ (48 ≤ t p ∧ t p ≤ 57) → G 243 [some (2, 93, 0), some (0, 0, a1), some (0, 0, fw_bo L), some (0, 0, fw_bo g), L4.map fun b => (0, 0, b)] [] σ := by
      intro hal
      refine s243 L4 _ _ σ ?_
      rw [h5, ep, Int.toNat_natCast, e94]
      by_cases hl : 97 ≤ t p ∧ t p ≤ 122
      · rw [if_pos hl] at k
        have hL : p = q → L := fun z => by
          by_cases l : L
          · exact l
          · have := (h0 z).2.2 l; omega
        have I' := fun w' n' a (_ : (p : Int) - q < 2 → n' = fw_c (10 * σ 93 8 + t p - 48)) => rf_is_l (w' := w') (n' := n') I hl hL a
        refine ⟨⟨Int.natCast_nonneg p, by show (p : Int) < 940; omega⟩, fun z => ?_, fun z => ⟨_, rfl, ?_⟩⟩
        · have := nx (g ∧ L) _ I' k
          rw [fw_bo_f (show ¬ (g ∧ L) from fun y => fw_bo_eq z y.1)] at this
          exact fs_m_go_271 hG this
        · rw [et]
          refine fs_m_go_263 hG ?_
          rw [fw_bo_c, fw_bo_c]
          refine ⟨fun y => ?_, fun y => ?_⟩
          · have := nx (g ∧ L) _ I' k
            rw [fw_bo_f (show ¬ (g ∧ L) from fun v => y (fw_bo_iff.mpr ⟨fun _ => v.2, fun _ => hl⟩))] at this
            exact fs_m_go_271 hG this
          · have := nx (g ∧ L) _ I' k
            rw [fw_bo_t (show g ∧ L from ⟨fw_bo_ne z, (fw_bo_iff.mp y).mp hl⟩)] at this
            exact this
      · have hd : 48 ≤ t p ∧ t p ≤ 57 := hal.elim (fun z => absurd z hl) (fun z => z)
        rw [if_neg hl, if_pos hd] at k
        have hL : p = q → ¬ L := fun z l => by
          have := (h0 z).2.1 l; omega
        have I' := fun w' n' (_ : (p : Int) - q < 7 → w' = fw_d (27 * σ 93 12 + fw_c (t p) - 96)) a => rf_is_d (w' := w') (n' := n') I hd hL a
        refine ⟨⟨Int.natCast_nonneg p, by show (p : Int) < 940; omega⟩, fun z => ?_, fun z => ⟨_, rfl, ?_⟩⟩
        · have := nx (g ∧ ¬ L) _ I' k
          rw [fw_bo_f (show ¬ (g ∧ ¬ L) from fun y => fw_bo_eq z y.1)] at this
          exact fs_m_go_271 hG this
        · rw [et]
          refine fs_m_go_263 hG ?_
          rw [fw_bo_c, fw_bo_c]
          refine ⟨fun y => ?_, fun y => ?_⟩
          · have := nx (g ∧ ¬ L) _ I' k
            rw [fw_bo_f (show ¬ (g ∧ ¬ L) from fun v => y (fw_bo_iff.mpr ⟨fun m => absurd m hl, fun m => absurd m v.2⟩))] at this
            exact fs_m_go_271 hG this
          · have := nx (g ∧ ¬ L) _ I' k
            rw [fw_bo_t (show g ∧ ¬ L from ⟨fw_bo_ne z, fun m => hl ((fw_bo_iff.mp y).mpr m)⟩)] at this
            exact this
    refine s215 L4 _ _ σ ⟨_, rfl, by omega, s223 L4 _ _ _ σ ⟨_, rfl, ?_⟩⟩
    rw [if_pos (show σ 93 5 < σ 93 3 by omega), e5, e94, et]
    refine s226 L4 _ _ _ σ ⟨fun z => at243 (Or.inl (fw_bo_ne z)), fun z => ⟨_, rfl, by omega, s237 L4 _ _ _ σ ⟨_, rfl, ?_⟩⟩⟩
    rw [if_pos (show σ 93 5 < σ 93 3 by omega), e5, e94, et]
    refine s240 L4 _ _ _ σ ⟨fun z2 => ?_, fun z2 => at243 (Or.inr (fw_bo_ne z2))⟩
    have a1 := fw_bo_eq z
    have a2 := fw_bo_eq z2
    rw [if_neg a1, if_neg a2] at k
    have hlt : q < p := by
      rcases Nat.lt_or_ge q p with a | a
      · exact a
      · have h0 := h0 (by omega)
        by_cases l : L
        · exact absurd (h0.2.1 l) a1
        · exact absurd (h0.2.2 l) a2
    exact fin p σ s g L4 (by omega) hlt hM h5 h6 I k
section
variable {l : Launch} {cy : Nat → ClassId} {ad wr cr : Nat → Nat} {D : va_G}
theorem fm_m_isLetter (hinj : nn_inj ad) : fw_H l cy ad wr cr D 213 0 sp_m_isLetter := fw_mk hinj (⟨"NameNotesModel", "isLetter", "(I)Z"⟩, prog_14_method_16_code, 1, (Option.some Jvm.ClassFile.FieldType.boolean), 1, false, 1) rfl rfl nn_KI20_ok nn_KJ20_ok nn_PF20_ok nn_PS20_ok (by decide +kernel) rfl rfl (fun _ h => absurd h List.not_mem_nil) (fun as σ K h => by
  obtain ⟨x, rfl, h⟩ := h
  have ea : fw_c 97 = 97 := fw_c_id (by decide) (by decide)
  have ez : fw_c 122 = 122 := fw_c_id (by decide) (by decide)
  refine ⟨rfl, fun G hG => fs_m_isLetter_0 hG ?_⟩
  rw [ea, ez]
  refine ⟨fun q => ⟨fw_01, ?_⟩, fun q => ⟨fun q2 => ⟨fw_01, ?_⟩, fun q2 => ⟨fw_11, ?_⟩⟩⟩
  · rw [fw_bo_f (fun y => absurd q (by omega))] at h; exact h
  · rw [fw_bo_f (fun y => absurd q2 (by omega))] at h; exact h
  · rw [fw_bo_t ⟨q, q2⟩] at h; exact h)
theorem fm_m_isDigit (hinj : nn_inj ad) : fw_H l cy ad wr cr D 214 0 sp_m_isDigit := fw_mk hinj (⟨"NameNotesModel", "isDigit", "(I)Z"⟩, prog_14_method_15_code, 1, (Option.some Jvm.ClassFile.FieldType.boolean), 1, false, 1) rfl rfl nn_KI20_ok nn_KJ20_ok nn_PF20_ok nn_PS20_ok (by decide +kernel) rfl rfl (fun _ h => absurd h List.not_mem_nil) (fun as σ K h => by
  obtain ⟨x, rfl, h⟩ := h
  have ea : fw_c 48 = 48 := fw_c_id (by decide) (by decide)
  have ez : fw_c 57 = 57 := fw_c_id (by decide) (by decide)
  refine ⟨rfl, fun G hG => fs_m_isDigit_0 hG ?_⟩
  rw [ea, ez]
  refine ⟨fun q => ⟨fw_01, ?_⟩, fun q => ⟨fun q2 => ⟨fw_01, ?_⟩, fun q2 => ⟨fw_11, ?_⟩⟩⟩
  · rw [fw_bo_f (fun y => absurd q (by omega))] at h; exact h
  · rw [fw_bo_f (fun y => absurd q2 (by omega))] at h; exact h
  · rw [fw_bo_t ⟨q, q2⟩] at h; exact h)
theorem fm_m_tapeAt (hinj : nn_inj ad) : fw_H l cy ad wr cr D 215 0 sp_m_tapeAt := fw_mk hinj (⟨"NameNotesModel", "tapeAt", "(I)I"⟩, prog_14_method_14_code, 2, (Option.some Jvm.ClassFile.FieldType.int), 1, true, 0) rfl rfl nn_KI20_ok nn_KJ20_ok nn_PF20_ok nn_PS20_ok (by decide +kernel) rfl rfl (fun _ h => absurd h List.not_mem_nil) (fun as σ K h => by
  obtain ⟨x, rfl, hb, h⟩ := h
  have ex : fw_c x = x := fw_c_id (by omega) (by omega)
  have e3 : fw_c (σ 93 3) = σ 93 3 := fw_c_id (by omega) (by omega)
  refine ⟨rfl, fun G hG => fs_m_tapeAt_0 hG ?_⟩
  rw [ex, e3]
  refine ⟨fun q => ?_, fun q => ⟨⟨hb.1, by show x < 940; omega⟩, ?_⟩⟩
  · rw [if_neg (by omega)] at h; exact h
  · rw [if_pos q] at h; exact h)
theorem fm_m_go (hinj : nn_inj ad) : fw_H l cy ad wr cr D 212 1 sp_m_go := fw_mk hinj (⟨"NameNotesModel", "go", "()V"⟩, prog_14_method_17_code, 5, (Option.none : Option Jvm.ClassFile.FieldType), 0, true, 4) rfl rfl nn_KI20_ok nn_KJ20_ok nn_PF20_ok nn_PS20_ok (by decide +kernel) rfl rfl (List.forall_mem_cons.mpr ⟨fw_row nn_PM20_ok (x := 129) (k := 0) (mn := 213) (np := 1) (ob := false) (ci := 0) (⟨"NameNotesModel", "isLetter", "(I)Z"⟩, prog_14_method_16_code, 1, (Option.some Jvm.ClassFile.FieldType.boolean), 1, false, 1) rfl (by decide +kernel) rfl rfl (by decide) (fun q => by cases q) (fm_m_isLetter hinj), (List.forall_mem_cons.mpr ⟨fw_row nn_PM20_ok (x := 133) (k := 0) (mn := 214) (np := 1) (ob := false) (ci := 0) (⟨"NameNotesModel", "isDigit", "(I)Z"⟩, prog_14_method_15_code, 1, (Option.some Jvm.ClassFile.FieldType.boolean), 1, false, 1) rfl (by decide +kernel) rfl rfl (by decide) (fun q => by cases q) (fm_m_isDigit hinj), (List.forall_mem_cons.mpr ⟨fw_row nn_PM20_ok (x := 146) (k := 0) (mn := 215) (np := 1) (ob := true) (ci := 11) (⟨"NameNotesModel", "tapeAt", "(I)I"⟩, prog_14_method_14_code, 2, (Option.some Jvm.ClassFile.FieldType.int), 1, true, 0) rfl (by decide +kernel) rfl rfl (by decide) (fun _ => ⟨_, _, rfl⟩) (fm_m_tapeAt hinj), (fun _ h => absurd h List.not_mem_nil)⟩)⟩)⟩) (fun as σ K h => by
  obtain ⟨t, rfl, ⟨n1, n2, n3, n4, n5⟩, ht, h⟩ := h
  obtain ⟨n, en⟩ : ∃ n : Nat, σ 93 3 = (n : Int) := ⟨(σ 93 3).toNat, by omega⟩
  have ht' : ∀ j : Nat, j < n → σ 94 j = t j ∧ 0 ≤ t j ∧ t j ≤ 255 := fun j hj => ht j (by omega)
  have hn : (σ 93 3).toNat = n := by omega
  rw [hn] at h
  refine ⟨rfl, fun G hG => ?_⟩
  refine mg_skip hG (σ0 := σ) (t := t) (n := n) (by omega) en ht' (n - (σ 93 5).toNat) (σ 93 5).toNat σ (by omega) (fw_okM_refl _ _) (by omega) (fun σ1 hM h5 => ?_)
  have hq := tk_sk_le t (n - (σ 93 5).toNat) (σ 93 5).toNat
  unfold tk_tok at h
  generalize tk_sk t (n - (σ 93 5).toNat) (σ 93 5).toNat = q at h h5 hq
  have hqn : q ≤ n := by omega
  have e3 : σ1 93 3 = (n : Int) := (hM 93 3 (by decide)).trans en
  have e4 : σ1 93 4 = σ 93 4 := hM 93 4 (by decide)
  have c3 : fw_c (n : Int) = n := fw_c_id (by omega) (by omega)
  have c4 : fw_c (σ 93 4) = σ 93 4 := fw_c_id (by omega) (by omega)
  have c5 : fw_c (q : Int) = q := fw_c_id (by omega) (by omega)
  have at96 : ¬ (σ 93 4 < (n : Int) ∧ σ 93 4 ≤ (q : Int)) → G 96 [some (2, 93, 0), none, none, none, none] [] (ab_ups σ1 93 6 (q : Int)) := by
    intro hno
    unfold tk_at at h
    rw [if_neg hno] at h
    have M2 : ab_okM go_M σ (ab_ups σ1 93 6 (q : Int)) := fw_okM_ups hM (by decide)
    have p5 : ab_ups σ1 93 6 (q : Int) 93 5 = (q : Int) := (ab_ups_ne (by decide)).trans h5
    have p3 : ab_ups σ1 93 6 (q : Int) 93 3 = (n : Int) := (ab_ups_ne (by decide)).trans e3
    have p6 : ab_ups σ1 93 6 (q : Int) 93 6 = (q : Int) := ab_ups_eq
    generalize ab_ups σ1 93 6 (q : Int) = σ2 at M2 p5 p3 p6 ⊢
    refine fs_m_go_96 hG ?_
    rw [p5, p3, c3, c5, Int.toNat_natCast]
    refine ⟨fun qn => ?_, fun qn => ?_⟩
    · have hb := ht' q (by omega)
      have e94 : σ2 94 q = t q := by rw [fw_okM_c M2 (a := 94) (by decide)]; exact hb.1
      have et : fw_c (t q) = t q := fw_c_id (by omega) (by omega)
      rw [if_neg (show ¬ n ≤ q by omega)] at h
      rw [e94]
      refine ⟨⟨Int.natCast_nonneg q, by show (q : Int) < 940; omega⟩, _, rfl, ?_⟩
      rw [et]
      have at198 : (97 ≤ t q ∧ t q ≤ 122) ∨ (48 ≤ t q ∧ t q ≤ 57) → G 198 [some (2, 93, 0), some (0, 0, t q), none, none, none] [] σ2 := by
        intro hal
        rw [if_pos hal] at h
        refine fs_m_go_198 hG ⟨_, rfl, ?_⟩
        rw [et]
        refine fs_m_go_202 hG ?_
        have z : fw_d ((0 : Nat) : Int) = 0 := fw_d_id (by decide) (by decide)
        rw [z, fw_c0]
        have w12 : ab_ups (ab_ups σ2 93 12 0) 93 8 0 93 12 = 0 := (ab_ups_ne (by decide)).trans ab_ups_eq
        have w8 : ab_ups (ab_ups σ2 93 12 0) 93 8 0 93 8 = 0 := ab_ups_eq
        have I : rf_is (97 ≤ t q ∧ t q ≤ 122) q q (0, 0, 0, 0) True (ab_ups (ab_ups σ2 93 12 0) 93 8 0 93 12) (ab_ups (ab_ups σ2 93 12 0) 93 8 0 93 8) := by
          rw [w12, w8]; exact rf_is_0 _ q
        have := mg_run hG (σ0 := σ) (t := t) (n := n) (q := q) (by omega) en ht' (L := 97 ≤ t q ∧ t q ≤ 122) (a1 := t q) (n - q) q (ab_ups (ab_ups σ2 93 12 0) 93 8 0) (0, 0, 0, 0) True none (by omega) (Nat.le_refl _) (fw_okM_ups (fw_okM_ups M2 (by decide)) (by decide)) ((ab_ups_ne (by decide)).trans ((ab_ups_ne (by decide)).trans p5)) ((ab_ups_ne (by decide)).trans ((ab_ups_ne (by decide)).trans p6)) I (fun _ => ⟨by omega, fun y => y, fun y => hal.elim (fun v => absurd v y) (fun v => v)⟩) h
        rw [fw_bo_t trivial] at this
        exact this
      refine fs_m_go_127 hG ⟨fun z => at198 (Or.inl (fw_bo_ne z)), fun z => ⟨_, rfl, ?_⟩⟩
      have hnl := fw_bo_eq z
      rw [et]
      refine fs_m_go_134 hG ⟨fun z2 => at198 (Or.inr (fw_bo_ne z2)), fun z2 => ?_⟩
      have hnd := fw_bo_eq z2
      rw [if_neg (show ¬ ((97 ≤ t q ∧ t q ≤ 122) ∨ (48 ≤ t q ∧ t q ≤ 57)) from fun y => y.elim hnl hnd)] at h
      have at179 : ∀ v : Int, ((v = 4 ∧ (t q = 59 ∨ (60 ≤ t q ∧ t q ≤ 62) ∨ t q = 40 ∨ t q = 41)) ∨ (v = 1 ∧ ¬ (t q = 59 ∨ (60 ≤ t q ∧ t q ≤ 62) ∨ t q = 40 ∨ t q = 41))) → G 179 [some (2, 93, 0), some (0, 0, t q), none, none, none] [(0, 0, v), (2, 93, 0)] σ2 := by
        intro v hv
        refine fs_m_go_179 hG ?_
        have ev : fw_c v = v := fw_c_id (by omega) (by omega)
        have e1 : fw_c (σ2 93 5 + 1) = ((q + 1 : Nat) : Int) := by rw [p5, fw_c_id (by omega) (by omega)]; rfl
        rw [ev, et, e1]
        refine h _ (fw_okM_ups (fw_okM_ups (fw_okM_ups M2 (by decide)) (by decide)) (by decide)) ?_
        have r6 : ab_ups (ab_ups (ab_ups σ2 93 7 v) 93 9 (t q)) 93 5 ((q + 1 : Nat) : Int) 93 6 = (q : Int) := (ab_ups_ne (by decide)).trans ((ab_ups_ne (by decide)).trans ((ab_ups_ne (by decide)).trans p6))
        have r7 : ab_ups (ab_ups (ab_ups σ2 93 7 v) 93 9 (t q)) 93 5 ((q + 1 : Nat) : Int) 93 7 = v := (ab_ups_ne (by decide)).trans ((ab_ups_ne (by decide)).trans ab_ups_eq)
        have r9 : ab_ups (ab_ups (ab_ups σ2 93 7 v) 93 9 (t q)) 93 5 ((q + 1 : Nat) : Int) 93 9 = t q := (ab_ups_ne (by decide)).trans ab_ups_eq
        have r5 : ab_ups (ab_ups (ab_ups σ2 93 7 v) 93 9 (t q)) 93 5 ((q + 1 : Nat) : Int) 93 5 = ((q + 1 : Nat) : Int) := ab_ups_eq
        by_cases hs : t q = 59 ∨ (60 ≤ t q ∧ t q ≤ 62) ∨ t q = 40 ∨ t q = 41
        · have v4 : v = 4 := by omega
          rw [if_pos (show t q = 59 ∨ (60 ≤ t q ∧ t q ≤ 62) ∨ t q = 40 ∨ t q = 41 ∨ t q = 46 by omega)]
          exact ⟨r6, r5, fun y => absurd y (by show ¬ t q = 0; omega), fun y => absurd y (by show ¬ (t q = 1 ∨ t q = 46); omega), fun y => absurd y (by show ¬ t q = 2; omega), fun y => absurd y (by show ¬ t q = 3; omega), fun _ => ⟨r7.trans v4, r9⟩⟩
        · have v1 : v = 1 := by omega
          by_cases h46 : t q = 46
          · rw [if_pos (show t q = 59 ∨ (60 ≤ t q ∧ t q ≤ 62) ∨ t q = 40 ∨ t q = 41 ∨ t q = 46 by omega)]
            exact ⟨r6, r5, fun y => absurd y (by show ¬ t q = 0; omega), fun _ => r7.trans v1, fun y => absurd y (by show ¬ t q = 2; omega), fun y => absurd y (by show ¬ t q = 3; omega), fun y => absurd y hs⟩
          · rw [if_neg (show ¬ (t q = 59 ∨ (60 ≤ t q ∧ t q ≤ 62) ∨ t q = 40 ∨ t q = 41 ∨ t q = 46) by omega)]
            exact ⟨r6, r5, fun y => absurd y (by show ¬ (1 : Int) = 0; decide), fun _ => r7.trans v1, fun y => absurd y (by show ¬ (1 : Int) = 2; decide), fun y => absurd y (by show ¬ (1 : Int) = 3; decide), fun y => absurd y (by show ¬ ((1 : Int) = 59 ∨ (60 ≤ (1 : Int) ∧ (1 : Int) ≤ 62) ∨ (1 : Int) = 40 ∨ (1 : Int) = 41); decide)⟩
      have at174 : (t q = 59 ∨ (60 ≤ t q ∧ t q ≤ 62) ∨ t q = 40 ∨ t q = 41) → G 174 [some (2, 93, 0), some (0, 0, t q), none, none, none] [(2, 93, 0)] σ2 := fun y => fs_m_go_174 hG (at179 4 (Or.inl ⟨rfl, y⟩))
      have d1 : fw_c 59 = 59 := fw_c_id (by decide) (by decide)
      have d2 : fw_c 60 = 60 := fw_c_id (by decide) (by decide)
      have d3 : fw_c 61 = 61 := fw_c_id (by decide) (by decide)
      have d4 : fw_c 62 = 62 := fw_c_id (by decide) (by decide)
      have d5 : fw_c 40 = 40 := fw_c_id (by decide) (by decide)
      have d6 : fw_c 41 = 41 := fw_c_id (by decide) (by decide)
      rw [et, d1, d2, d3, d4, d5, d6]
      exact ⟨fun a => at174 (by omega), fun a => ⟨fun b => at174 (by omega), fun b => ⟨fun c => at174 (by omega), fun c => ⟨fun d => at174 (by omega), fun d => ⟨fun e => at174 (by omega), fun e => ⟨fun f => at179 1 (Or.inr ⟨rfl, by omega⟩), fun f => at174 (by omega)⟩⟩⟩⟩⟩⟩
    · rw [if_pos (show n ≤ q by omega)] at h
      rw [fw_c0]
      exact h _ (fw_okM_ups M2 (by decide)) ⟨(ab_ups_ne (by decide)).trans p6, (ab_ups_ne (by decide)).trans p5, fun _ => ab_ups_eq, fun y => absurd y (by show ¬ ((0 : Int) = 1 ∨ (0 : Int) = 46); decide), fun y => absurd y (by show ¬ (0 : Int) = 2; decide), fun y => absurd y (by show ¬ (0 : Int) = 3; decide), fun y => absurd y (by show ¬ ((0 : Int) = 59 ∨ (60 ≤ (0 : Int) ∧ (0 : Int) ≤ 62) ∨ (0 : Int) = 40 ∨ (0 : Int) = 41); decide)⟩
  refine fs_m_go_52 hG ?_
  rw [h5, e3, e4, c3, c4, c5, c5]
  refine ⟨fun a => at96 (by omega), fun a => ⟨fun b => at96 (by omega), fun b => ?_⟩⟩
  unfold tk_at at h
  rw [if_pos ⟨a, b⟩] at h
  rw [fw_c1]
  exact h _ (fw_okM_ups (fw_okM_ups (fw_okM_ups hM (by decide)) (by decide)) (by decide)) ⟨(ab_ups_ne (by decide)).trans ab_ups_eq, (ab_ups_ne (by decide)).trans ((ab_ups_ne (by decide)).trans ((ab_ups_ne (by decide)).trans h5)), fun y => absurd y (by show ¬ (1 : Int) = 0; decide), fun _ => ab_ups_eq, fun y => absurd y (by show ¬ (1 : Int) = 2; decide), fun y => absurd y (by show ¬ (1 : Int) = 3; decide), fun y => absurd y (by show ¬ ((1 : Int) = 59 ∨ (60 ≤ (1 : Int) ∧ (1 : Int) ≤ 62) ∨ (1 : Int) = 40 ∨ (1 : Int) = 41); decide)⟩)
end
