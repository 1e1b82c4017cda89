/-! the first side against the second one's rule -/
def dr_g (C V : Nat → Int) (kd : Int) (b : Nat) : Int := if 1 < b ∧ kd * 976299632280 ≤ C (10 + b - 1) * 9 then V (b - 1) else C b
def dr_s (F : Nat → Int) : Nat → Int × Int → Int × Int
  | 0, st => st
  | b + 1, st => dr_s F b (if st.1 < F (b + 1) then (F (b + 1), ((b + 1 : Nat) : Int)) else st)
theorem dr_ss (F : Nat → Int) (b : Nat) (v mv : Int) : dr_s F (b + 1) (v, mv) = if v < F (b + 1) then dr_s F b (F (b + 1), ((b + 1 : Nat) : Int)) else dr_s F b (v, mv) := by
  show dr_s F b (if v < F (b + 1) then (F (b + 1), ((b + 1 : Nat) : Int)) else (v, mv)) = _
  by_cases q : v < F (b + 1)
  · rw [if_pos q, if_pos q]
  · rw [if_neg q, if_neg q]
theorem dr_sc {F F' : Nat → Int} : ∀ (m : Nat) (v mv : Int), (∀ b : Nat, 1 ≤ b → b ≤ m → F b = F' b) → dr_s F m (v, mv) = dr_s F' m (v, mv)
  | 0, _, _, _ => rfl
  | m + 1, v, mv, h => by
    rw [dr_ss, dr_ss, h (m + 1) (by omega) (by omega), dr_sc m (F' (m + 1)) ((m + 1 : Nat) : Int) (fun b h1 h2 => h b h1 (by omega)), dr_sc m v mv (fun b h1 h2 => h b h1 (by omega))]
theorem dr_sz {F F' : Nat → Int} : ∀ (m : Nat) (v mv : Int), (∀ b : Nat, 1 ≤ b → b ≤ m → F' b = 2520 * F b) → dr_s F' m (2520 * v, mv) = (2520 * (dr_s F m (v, mv)).1, (dr_s F m (v, mv)).2)
  | 0, _, _, _ => rfl
  | m + 1, v, mv, h => by
    have e := h (m + 1) (by omega) (by omega)
    rw [dr_ss, dr_ss]
    by_cases q : v < F (m + 1)
    · rw [if_pos q, if_pos (show 2520 * v < F' (m + 1) by omega), e]
      exact dr_sz m _ _ (fun b h1 h2 => h b h1 (by omega))
    · rw [if_neg q, if_neg (show ¬ 2520 * v < F' (m + 1) by omega)]
      exact dr_sz m _ _ (fun b h1 h2 => h b h1 (by omega))
theorem dr_sb {F : Nat → Int} {T : Nat} : ∀ (m : Nat) (v mv : Int), (∀ b : Nat, 1 ≤ b → b ≤ m → 0 ≤ F b ∧ F b ≤ 976299632280) → (0 ≤ v ∧ v ≤ 976299632280) → (0 ≤ mv ∧ mv ≤ (T : Int)) → m ≤ T → (0 ≤ (dr_s F m (v, mv)).1 ∧ (dr_s F m (v, mv)).1 ≤ 976299632280) ∧ (0 ≤ (dr_s F m (v, mv)).2 ∧ (dr_s F m (v, mv)).2 ≤ (T : Int))
  | 0, _, _, _, h1, h2, _ => ⟨h1, h2⟩
  | m + 1, v, mv, h, h1, h2, h3 => by
    have e := h (m + 1) (by omega) (by omega)
    rw [dr_ss]
    by_cases q : v < F (m + 1)
    · rw [if_pos q]
      exact dr_sb m _ _ (fun b g1 g2 => h b g1 (by omega)) e ⟨by omega, by omega⟩ (by omega)
    · rw [if_neg q]
      exact dr_sb m _ _ (fun b g1 g2 => h b g1 (by omega)) h1 h2 (by omega)
/-- value and move of the first side behind a bid of n -/
def dr_r (C V : Nat → Int) (kd : Int) (n m : Nat) : Int × Int := dr_s (dr_g C V kd) m (dl_st 976299632280 C 10 n, 0)
def dr_1 (C : Nat → Int) (kd : Int) (n m : Nat) (st : (Nat → Int) × (Nat → Int)) : (Nat → Int) × (Nat → Int) := (dl_put st.1 n (dr_r C st.1 kd n m).1, dl_put st.2 n (dr_r C st.1 kd n m).2)
def dr_n (C : Nat → Int) (kd : Int) (f : Nat) : Nat → (Nat → Int) × (Nat → Int)
  | 0 => (fun _ => 0, fun _ => 0)
  | k + 1 => dr_1 C kd ((k + 1) % 10) (dl_m f ((k + 1) % 10)) (dr_n C kd f k)
theorem dr_nn (C : Nat → Int) (kd : Int) (f : Nat) {k : Nat} (h : k < 9) : dr_n C kd f (k + 1) = dr_1 C kd (k + 1) k (dr_n C kd f k) := by
  show dr_1 C kd ((k + 1) % 10) (dl_m f ((k + 1) % 10)) (dr_n C kd f k) = _
  rw [Nat.mod_eq_of_lt (show k + 1 < 10 by omega)]
  rfl
theorem dr_nt (C : Nat → Int) (kd : Int) (f : Nat) : dr_n C kd f (9 + 1) = dr_1 C kd 0 f (dr_n C kd f 9) := rfl
def dr_B (st : (Nat → Int) × (Nat → Int)) : Prop := ∀ i : Nat, (0 ≤ st.1 i ∧ st.1 i ≤ 976299632280) ∧ (0 ≤ st.2 i ∧ st.2 i ≤ 9)
theorem dr_gb {C V : Nat → Int} {kd : Int} (hC : dl_C C) (hV : ∀ i : Nat, 0 ≤ V i ∧ V i ≤ 976299632280) {b : Nat} (h1 : 1 ≤ b) (h2 : b < 10) : 0 ≤ dr_g C V kd b ∧ dr_g C V kd b ≤ 976299632280 := by
  unfold dr_g
  split
  · exact hV _
  · exact hC b (by omega) (by omega)
theorem dr_rb {C V : Nat → Int} {kd : Int} {n m : Nat} (hn : n < 10) (hm : m < 10) (hz : n = 0 → 1 ≤ m) (hC : dl_C C) (hV : ∀ i : Nat, 0 ≤ V i ∧ V i ≤ 976299632280) : (0 ≤ (dr_r C V kd n m).1 ∧ (dr_r C V kd n m).1 ≤ 976299632280) ∧ (0 ≤ (dr_r C V kd n m).2 ∧ (dr_r C V kd n m).2 ≤ (m : Int)) := by
  unfold dr_r dl_st
  by_cases c : n = 0
  · rw [if_pos c]
    obtain ⟨m, rfl⟩ : ∃ k : Nat, m = k + 1 := ⟨m - 1, by have := hz c; omega⟩
    have e := dr_gb (kd := kd) hC hV (b := m + 1) (by omega) hm
    rw [dr_ss, if_pos (show (-1 : Int) < dr_g C V kd (m + 1) by omega)]
    exact dr_sb m _ _ (fun b h1 h2 => dr_gb hC hV h1 (by omega)) e ⟨by omega, by omega⟩ (by omega)
  · rw [if_neg c]
    have e := hC (10 + n) (by omega) (by omega)
    exact dr_sb m _ _ (fun b h1 h2 => dr_gb hC hV h1 (by omega)) ⟨by omega, by omega⟩ ⟨Int.le_refl 0, by omega⟩ (Nat.le_refl m)
theorem dr_1b {C : Nat → Int} {kd : Int} {st : (Nat → Int) × (Nat → Int)} {n m : Nat} (hB : dr_B st) (hC : dl_C C) (hn : n < 10) (hm : m < 10) (hz : n = 0 → 1 ≤ m) : dr_B (dr_1 C kd n m st) := by
  have r := dr_rb (kd := kd) (V := st.1) hn hm hz hC (fun i => (hB i).1)
  intro i
  show (0 ≤ dl_put _ _ _ i ∧ dl_put _ _ _ i ≤ 976299632280) ∧ (0 ≤ dl_put _ _ _ i ∧ dl_put _ _ _ i ≤ 9)
  by_cases c : i = n
  · subst c
    rw [dl_put_eq, dl_put_eq]
    exact ⟨r.1, r.2.1, by omega⟩
  · rw [dl_put_ne _ _ c, dl_put_ne _ _ c]
    exact hB i
theorem dr_nb {C : Nat → Int} {kd : Int} {f : Nat} (hC : dl_C C) (hf : 1 ≤ f ∧ f ≤ 9) : ∀ k : Nat, dr_B (dr_n C kd f k)
  | 0 => fun i => ⟨⟨Int.le_refl 0, show (0 : Int) ≤ 976299632280 by decide⟩, ⟨Int.le_refl 0, show (0 : Int) ≤ 9 by decide⟩⟩
  | k + 1 => by
    have b := dr_nb (kd := kd) hC hf k
    have lt : (k + 1) % 10 < 10 := Nat.mod_lt _ (by decide)
    have m : dl_m f ((k + 1) % 10) < 10 ∧ ((k + 1) % 10 = 0 → 1 ≤ dl_m f ((k + 1) % 10)) := by
      generalize (k + 1) % 10 = n at lt ⊢
      cases n with
      | zero => exact ⟨by show f < 10; omega, fun _ => hf.1⟩
      | succ n => exact ⟨by show n < 10; omega, fun z => absurd z (Nat.succ_ne_zero n)⟩
    exact dr_1b b hC lt m.1 m.2
theorem dr_gc {C C' V V' : Nat → Int} {kd : Int} {b : Nat} (h1 : C b = C' b) (h2 : 1 < b → C (10 + b - 1) = C' (10 + b - 1) ∧ V (b - 1) = V' (b - 1)) : dr_g C V kd b = dr_g C' V' kd b := by
  unfold dr_g
  by_cases c : 1 < b
  · rw [(h2 c).1, (h2 c).2, h1]
  · rw [if_neg (fun z => c z.1), if_neg (fun z => c z.1), h1]
theorem dr_rc {C C' V V' : Nat → Int} {kd : Int} {n m : Nat} (hm : m < 10) (hn : n < 10) (hC : ∀ i : Nat, i < 20 → 1 ≤ i % 10 → C i = C' i) (hV : ∀ b : Nat, 1 ≤ b → b < m → V b = V' b) : dr_r C V kd n m = dr_r C' V' kd n m := by
  unfold dr_r dl_st
  have e : ∀ b : Nat, 1 ≤ b → b ≤ m → dr_g C V kd b = dr_g C' V' kd b := fun b h1 h2 => dr_gc (hC b (by omega) (by omega)) (fun z => ⟨hC _ (by omega) (by omega), hV _ (by omega) (by omega)⟩)
  by_cases c : n = 0
  · rw [if_pos c, if_pos c]
    exact dr_sc m _ _ e
  · rw [if_neg c, if_neg c, hC (10 + n) (by omega) (by omega)]
    exact dr_sc m _ _ e
theorem dr_nc {C C' : Nat → Int} {kd : Int} {f : Nat} (hf : f ≤ 9) (h : ∀ i : Nat, i < 20 → 1 ≤ i % 10 → C i = C' i) : ∀ k : Nat, dr_n C kd f k = dr_n C' kd f k
  | 0 => rfl
  | k + 1 => by
    have lt : (k + 1) % 10 < 10 := Nat.mod_lt _ (by decide)
    have m : dl_m f ((k + 1) % 10) < 10 := by
      generalize (k + 1) % 10 = n at lt ⊢
      cases n with
      | zero => show f < 10; omega
      | succ n => show n < 10; omega
    show dr_1 C kd _ _ (dr_n C kd f k) = dr_1 C' kd _ _ (dr_n C' kd f k)
    rw [dr_nc hf h k]
    unfold dr_1
    rw [dr_rc (C' := C') (V' := (dr_n C' kd f k).1) m lt h (fun _ _ _ => rfl)]
def ds_u (σ : ab_SG) (kd : Int) (n m : Nat) : ab_SG := ab_ups (ab_ups σ 79 n (dr_r (σ 78) (σ 79) kd n m).1) 80 n (dr_r (σ 78) (σ 79) kd n m).2
theorem ds_uM {σ τ : ab_SG} (h : ab_okM du_B σ τ) (kd : Int) (n m : Nat) : ab_okM du_B σ (ds_u τ kd n m) := fw_okM_upa (fw_okM_upa h (by decide)) (by decide)
theorem ds_uA {S : Nat → Prop} {τ : ab_SG} {st : (Nat → Int) × (Nat → Int)} {C : Nat → Int} {kd : Int} {n m : Nat} (hm : m < 10) (hn : n < 10) (hA : du_A S τ st) (eC : τ 78 = C) (hr : ∀ b : Nat, 1 ≤ b → b < m → S b) : du_A (fun i => S i ∨ i = n) (ds_u τ kd n m) (dr_1 C kd n m st) := by
  have e : dr_r (τ 78) (τ 79) kd n m = dr_r C st.1 kd n m := dr_rc hm hn (fun _ _ _ => by rw [eC]) (fun b h1 h2 => (hA _ (hr b h1 h2)).1)
  intro i hi
  unfold ds_u
  rw [e]
  show _ = dl_put _ _ _ i ∧ _ = dl_put _ _ _ i
  rw [ab_ups_ne (fun z => absurd z.1 (by decide))]
  by_cases c : i = n
  · subst c
    rw [ab_ups_eq, ab_ups_eq, dl_put_eq, dl_put_eq]
    exact ⟨rfl, rfl⟩
  · have s := hA i (hi.resolve_right c)
    rw [ab_ups_ne (fun z => c z.2), ab_ups_ne (fun z => c z.2), ab_ups_ne (fun z => absurd z.1 (by decide)), dl_put_ne _ _ c, dl_put_ne _ _ c]
    exact s
def sp_speakAgainst : fw_SP := fun as σ K => ∃ (n m : Nat) (a b d : Int), as = [(2, 77, 0), (0, 0, a), (0, 0, b), (0, 0, d)] ∧ (a = (n : Int) ∧ b = (m : Int)) ∧ (n < 10 ∧ m < 10) ∧ (0 ≤ d ∧ d ≤ 9) ∧ dl_C (σ 78) ∧ (∀ b : Nat, 1 ≤ b → b < m → 0 ≤ σ 79 b ∧ σ 79 b ≤ 976299632280) ∧ K none (ds_u σ d n m)
def sp_doAgainst : fw_SP := fun as σ K => ∃ (f : Nat) (d : Int), as = [(2, 77, 0), (0, 0, (f : Int)), (0, 0, d)] ∧ (1 ≤ f ∧ f ≤ 9) ∧ (0 ≤ d ∧ d ≤ 9) ∧ dl_C (σ 78) ∧ ∀ σ' : ab_SG, ab_okM du_B σ σ' → (∀ i : Nat, i < 10 → σ' 79 i = (dr_n (σ 78) d f 10).1 i ∧ σ' 80 i = (dr_n (σ 78) d f 10).2 i) → K none σ'
def v_dr (A : ab_SG) (p q c : Int) : (Nat → Int) × (Nat → Int) := dr_n (v_ch A p.toNat q.toNat (v_set A c)) (A 56 q.toNat) (A 49 14).toNat 10
def sp_counter : fw_SP := fun as σ K => ∃ (A : ab_SG) (p q c : Int), as = [(2, 0, 0), (0, 0, p), (0, 0, q), (0, 0, c)] ∧ NC σ A ∧ v_bd A p q 0 c ∧ ∀ σ' : ab_SG, ab_okM du_M σ σ' → (∀ i : Nat, i < 10 → σ' 79 i = (v_dr A p q c).1 i ∧ σ' 80 i = (v_dr A p q c).2 i) → K none σ'
def v_reply (A : ab_SG) (p q n c : Int) : Int := if v_bd A p q n c then (v_dr A p q c).2 n.toNat else -1
def sp_reply : fw_SP := fun as σ K => ∃ (A : ab_SG) (p q n c : Int), as = [(2, 0, 0), (0, 0, p), (0, 0, q), (0, 0, n), (0, 0, c)] ∧ (fw_c p = p ∧ fw_c q = q ∧ fw_c n = n ∧ fw_c c = c) ∧ NC σ A ∧ ∀ σ' : ab_SG, ab_okM du_M σ σ' → K (some (0, 0, v_reply A p q n c)) σ'
abbrev fk_speakAgainst : List fw_CR := [(35, 3, false, 0, 0, sp_put79), (45, 2, false, 0, 0, sp_atj), (51, 3, false, 0, 0, sp_put80), (57, 2, false, 0, 0, sp_reaches)]
abbrev st_speakAgainst : fw_K → fw_KR → fw_K := fw_st vwCl nn_sh nn_kd fw_kv fw_wc (nn_KI10.map (fun x => x.1)) (nn_KJ10.map (fun x => x.1)) (nn_PF10.map (fun x => x.1)) (nn_PS10.map (fun x => x.1)) fk_speakAgainst 2 nn_dt100 11 4
theorem fs_speakAgainst_0 {G : fw_K} {R : fw_KR} (hG : fw_cls st_speakAgainst R G) {n m d : Int} {σ : ab_SG} (h : (fw_c n ≤ 0 → G 25 [some (2, 77, 0), some (0, 0, n), some (0, 0, m), some (0, 0, d), none, none, none, none, none, none, none] [(1, 0, (-1))] σ) ∧ (0 < fw_c n → sp_atj [(2, 78, 0), (0, 0, 10 + n)] σ (fun rv σ2 => G 18 [some (2, 77, 0), some (0, 0, n), some (0, 0, m), some (0, 0, d), none, none, none, none, none, none, none] (rv.toList ++ [(1, 0, 976299632280)]) σ2))) : G 0 [some (2, 77, 0), some (0, 0, n), some (0, 0, m), some (0, 0, d), none, none, none, none, none, none, none] [] σ := fw_on hG [18, 25, 33, 58, 62, 69, 70, 88, 100, 118, 134, 144] 200 h
theorem fs_speakAgainst_25 {G : fw_K} {R : fw_KR} (hG : fw_cls st_speakAgainst R G) {a1 a2 a3 b0 : Int} {o4 o5 o6 o7 o9 o10 : Option ab_AV} {σ : ab_SG} (h : G 33 [some (2, 77, 0), some (0, 0, a1), some (0, 0, a2), some (0, 0, a3), some (1, 0, b0), none, some (0, 0, 0), some (0, 0, a2), none, o9, o10] [] σ) : G 25 [some (2, 77, 0), some (0, 0, a1), some (0, 0, a2), some (0, 0, a3), o4, o5, o6, o7, none, o9, o10] [(1, 0, b0)] σ := fw_on hG [18, 25, 33, 58, 62, 69, 70, 88, 100, 118, 134, 144] 200 h
theorem fs_speakAgainst_18 {G : fw_K} {R : fw_KR} (hG : fw_cls st_speakAgainst R G) {a1 a2 a3 b0 b1 : Int} {o4 o5 o6 o7 o9 o10 : Option ab_AV} {σ : ab_SG} (h : G 25 [some (2, 77, 0), some (0, 0, a1), some (0, 0, a2), some (0, 0, a3), o4, o5, o6, o7, none, o9, o10] [(1, 0, b1 - b0)] σ) : G 18 [some (2, 77, 0), some (0, 0, a1), some (0, 0, a2), some (0, 0, a3), o4, o5, o6, o7, none, o9, o10] [(1, 0, b0), (1, 0, b1)] σ := fw_on hG [18, 25, 33, 58, 62, 69, 70, 88, 100, 118, 134, 144] 200 h
theorem fs_speakAgainst_33 {G : fw_K} {R : fw_KR} (hG : fw_cls st_speakAgainst R G) {a1 a3 a4 a6 a7 : Int} {o2 o5 o9 o10 : Option ab_AV} {σ : ab_SG} (h : (fw_c a7 ≤ 0 → sp_put79 [(2, 79, 0), (0, 0, a1), (1, 0, a4)] σ (fun rv σ2 => G 134 [some (2, 77, 0), some (0, 0, a1), o2, some (0, 0, a3), some (1, 0, a4), o5, some (0, 0, a6), some (0, 0, a7), none, o9, o10] (rv.toList ++ []) σ2)) ∧ (0 < fw_c a7 → (fw_c a7 ≤ fw_c 1 → G 69 [some (2, 77, 0), some (0, 0, a1), o2, some (0, 0, a3), some (1, 0, a4), o5, some (0, 0, a6), some (0, 0, a7), none, o9, o10] [] σ) ∧ (fw_c 1 < fw_c a7 → sp_atj [(2, 78, 0), (0, 0, (10 + a7) - 1)] σ (fun rv σ2 => G 58 [some (2, 77, 0), some (0, 0, a1), o2, some (0, 0, a3), some (1, 0, a4), o5, some (0, 0, a6), some (0, 0, a7), none, o9, o10] (rv.toList ++ []) σ2)))) : G 33 [some (2, 77, 0), some (0, 0, a1), o2, some (0, 0, a3), some (1, 0, a4), o5, some (0, 0, a6), some (0, 0, a7), none, o9, o10] [] σ := fw_on hG [18, 25, 33, 58, 62, 69, 70, 88, 100, 118, 134, 144] 200 h
theorem fs_speakAgainst_134 {G : fw_K} {R : fw_KR} (hG : fw_cls st_speakAgainst R G) {a1 a6 : Int} {o2 o3 o4 o5 o7 o9 o10 : Option ab_AV} {σ : ab_SG} (h : sp_put80 [(2, 80, 0), (0, 0, a1), (0, 0, a6)] σ (fun rv σ2 => G 144 [some (2, 77, 0), some (0, 0, a1), o2, o3, o4, o5, some (0, 0, a6), o7, none, o9, o10] (rv.toList ++ []) σ2)) : G 134 [some (2, 77, 0), some (0, 0, a1), o2, o3, o4, o5, some (0, 0, a6), o7, none, o9, o10] [] σ := fw_on hG [18, 25, 33, 58, 62, 69, 70, 88, 100, 118, 134, 144] 200 h
theorem fs_speakAgainst_69 {G : fw_K} {R : fw_KR} (hG : fw_cls st_speakAgainst R G) {a1 a3 a4 a6 a7 : Int} {o2 o5 o9 o10 : Option ab_AV} {σ : ab_SG} (h : G 70 [some (2, 77, 0), some (0, 0, a1), o2, some (0, 0, a3), some (1, 0, a4), o5, some (0, 0, a6), some (0, 0, a7), none, o9, o10] [(0, 0, 0)] σ) : G 69 [some (2, 77, 0), some (0, 0, a1), o2, some (0, 0, a3), some (1, 0, a4), o5, some (0, 0, a6), some (0, 0, a7), none, o9, o10] [] σ := fw_on hG [18, 25, 33, 58, 62, 69, 70, 88, 100, 118, 134, 144] 200 h
theorem fs_speakAgainst_58 {G : fw_K} {R : fw_KR} (hG : fw_cls st_speakAgainst R G) {a1 a3 a4 a6 a7 b0 : Int} {o2 o5 o9 o10 : Option ab_AV} {σ : ab_SG} (h : sp_reaches [(1, 0, b0), (0, 0, a3)] σ (fun rv σ2 => G 62 [some (2, 77, 0), some (0, 0, a1), o2, some (0, 0, a3), some (1, 0, a4), o5, some (0, 0, a6), some (0, 0, a7), none, o9, o10] (rv.toList ++ []) σ2)) : G 58 [some (2, 77, 0), some (0, 0, a1), o2, some (0, 0, a3), some (1, 0, a4), o5, some (0, 0, a6), some (0, 0, a7), none, o9, o10] [(1, 0, b0)] σ := fw_on hG [18, 25, 33, 58, 62, 69, 70, 88, 100, 118, 134, 144] 200 h
theorem fs_speakAgainst_144 {G : fw_K} {R : fw_KR} (hG : fw_cls st_speakAgainst R G) {o1 o2 o3 o4 o5 o6 o7 o9 o10 : Option ab_AV} {σ : ab_SG} (h : R none σ) : G 144 [some (2, 77, 0), o1, o2, o3, o4, o5, o6, o7, none, o9, o10] [] σ := fw_on hG [18, 25, 33, 58, 62, 69, 70, 88, 100, 118, 134, 144] 200 h
theorem fs_speakAgainst_70 {G : fw_K} {R : fw_KR} (hG : fw_cls st_speakAgainst R G) {a1 a3 a4 a6 a7 b0 : Int} {o2 o5 o9 o10 : Option ab_AV} {σ : ab_SG} (h : (fw_c b0 = 0 → sp_atj [(2, 78, 0), (0, 0, a7)] σ (fun rv σ2 => G 100 [some (2, 77, 0), some (0, 0, a1), o2, some (0, 0, a3), some (1, 0, a4), o5, some (0, 0, a6), some (0, 0, a7), some (0, 0, b0), o9, o10] (rv.toList ++ []) σ2)) ∧ (fw_c b0 ≠ 0 → sp_atj [(2, 79, 0), (0, 0, a7 - 1)] σ (fun rv σ2 => G 88 [some (2, 77, 0), some (0, 0, a1), o2, some (0, 0, a3), some (1, 0, a4), o5, some (0, 0, a6), some (0, 0, a7), some (0, 0, b0), o9, o10] (rv.toList ++ []) σ2))) : G 70 [some (2, 77, 0), some (0, 0, a1), o2, some (0, 0, a3), some (1, 0, a4), o5, some (0, 0, a6), some (0, 0, a7), none, o9, o10] [(0, 0, b0)] σ := fw_on hG [18, 25, 33, 58, 62, 69, 70, 88, 100, 118, 134, 144] 200 h
theorem fs_speakAgainst_62 {G : fw_K} {R : fw_KR} (hG : fw_cls st_speakAgainst R G) {a1 a3 a4 a6 a7 b0 : Int} {o2 o5 o9 o10 : Option ab_AV} {σ : ab_SG} (h : (fw_c b0 = 0 → G 69 [some (2, 77, 0), some (0, 0, a1), o2, some (0, 0, a3), some (1, 0, a4), o5, some (0, 0, a6), some (0, 0, a7), none, o9, o10] [] σ) ∧ (fw_c b0 ≠ 0 → G 70 [some (2, 77, 0), some (0, 0, a1), o2, some (0, 0, a3), some (1, 0, a4), o5, some (0, 0, a6), some (0, 0, a7), none, o9, o10] [(0, 0, 1)] σ)) : G 62 [some (2, 77, 0), some (0, 0, a1), o2, some (0, 0, a3), some (1, 0, a4), o5, some (0, 0, a6), some (0, 0, a7), none, o9, o10] [(0, 0, b0)] σ := fw_on hG [18, 25, 33, 58, 62, 69, 70, 88, 100, 118, 134, 144] 200 h
theorem fs_speakAgainst_100 {G : fw_K} {R : fw_KR} (hG : fw_cls st_speakAgainst R G) {a1 a3 a4 a6 a7 a8 b0 : Int} {o2 o5 o9 o10 : Option ab_AV} {σ : ab_SG} (h : (fw_d b0 ≤ fw_d a4 → G 118 [some (2, 77, 0), some (0, 0, a1), o2, some (0, 0, a3), some (1, 0, a4), o5, some (0, 0, a6), some (0, 0, a7), some (0, 0, a8), some (1, 0, b0), none] [] σ) ∧ (fw_d a4 < fw_d b0 → G 118 [some (2, 77, 0), some (0, 0, a1), o2, some (0, 0, a3), some (1, 0, b0), none, some (0, 0, a7), some (0, 0, a7), some (0, 0, a8), some (1, 0, b0), none] [] σ)) : G 100 [some (2, 77, 0), some (0, 0, a1), o2, some (0, 0, a3), some (1, 0, a4), o5, some (0, 0, a6), some (0, 0, a7), some (0, 0, a8), o9, o10] [(1, 0, b0)] σ := fw_on hG [18, 25, 33, 58, 62, 69, 70, 88, 100, 118, 134, 144] 200 h
theorem fs_speakAgainst_88 {G : fw_K} {R : fw_KR} (hG : fw_cls st_speakAgainst R G) {a1 a3 a4 a6 a7 a8 b0 : Int} {o2 o5 o9 o10 : Option ab_AV} {σ : ab_SG} (h : G 100 [some (2, 77, 0), some (0, 0, a1), o2, some (0, 0, a3), some (1, 0, a4), o5, some (0, 0, a6), some (0, 0, a7), some (0, 0, a8), o9, o10] [(1, 0, b0)] σ) : G 88 [some (2, 77, 0), some (0, 0, a1), o2, some (0, 0, a3), some (1, 0, a4), o5, some (0, 0, a6), some (0, 0, a7), some (0, 0, a8), o9, o10] [(1, 0, b0)] σ := fw_on hG [18, 25, 33, 58, 62, 69, 70, 88, 100, 118, 134, 144] 200 h
theorem fs_speakAgainst_118 {G : fw_K} {R : fw_KR} (hG : fw_cls st_speakAgainst R G) {a1 a3 a4 a6 a7 a8 : Int} {o2 o5 o9 o10 : Option ab_AV} {σ : ab_SG} (h : G 33 [some (2, 77, 0), some (0, 0, a1), o2, some (0, 0, a3), some (1, 0, a4), o5, some (0, 0, a6), some (0, 0, a7 + (-1)), some (0, 0, a8), o9, o10] [] σ) : G 118 [some (2, 77, 0), some (0, 0, a1), o2, some (0, 0, a3), some (1, 0, a4), o5, some (0, 0, a6), some (0, 0, a7), some (0, 0, a8), o9, o10] [] σ := fw_on hG [18, 25, 33, 58, 62, 69, 70, 88, 100, 118, 134, 144] 200 h
theorem fs_speakAgainst_33a {G : fw_K} {R : fw_KR} (hG : fw_cls st_speakAgainst R G) {a1 a3 a4 a6 a7 a8 : Int} {o2 o5 o9 o10 : Option ab_AV} {σ : ab_SG} (h : (fw_c a7 ≤ 0 → sp_put79 [(2, 79, 0), (0, 0, a1), (1, 0, a4)] σ (fun rv σ2 => G 134 [some (2, 77, 0), some (0, 0, a1), o2, some (0, 0, a3), some (1, 0, a4), o5, some (0, 0, a6), some (0, 0, a7), some (0, 0, a8), o9, o10] (rv.toList ++ []) σ2)) ∧ (0 < fw_c a7 → (fw_c a7 ≤ fw_c 1 → G 69 [some (2, 77, 0), some (0, 0, a1), o2, some (0, 0, a3), some (1, 0, a4), o5, some (0, 0, a6), some (0, 0, a7), some (0, 0, a8), o9, o10] [] σ) ∧ (fw_c 1 < fw_c a7 → sp_atj [(2, 78, 0), (0, 0, (10 + a7) - 1)] σ (fun rv σ2 => G 58 [some (2, 77, 0), some (0, 0, a1), o2, some (0, 0, a3), some (1, 0, a4), o5, some (0, 0, a6), some (0, 0, a7), some (0, 0, a8), o9, o10] (rv.toList ++ []) σ2)))) : G 33 [some (2, 77, 0), some (0, 0, a1), o2, some (0, 0, a3), some (1, 0, a4), o5, some (0, 0, a6), some (0, 0, a7), some (0, 0, a8), o9, o10] [] σ := fw_on hG [18, 25, 33, 58, 62, 69, 70, 88, 100, 118, 134, 144] 200 h
theorem fs_speakAgainst_134a {G : fw_K} {R : fw_KR} (hG : fw_cls st_speakAgainst R G) {a1 a6 a8 : Int} {o2 o3 o4 o5 o7 o9 o10 : Option ab_AV} {σ : ab_SG} (h : sp_put80 [(2, 80, 0), (0, 0, a1), (0, 0, a6)] σ (fun rv σ2 => G 144 [some (2, 77, 0), some (0, 0, a1), o2, o3, o4, o5, some (0, 0, a6), o7, some (0, 0, a8), o9, o10] (rv.toList ++ []) σ2)) : G 134 [some (2, 77, 0), some (0, 0, a1), o2, o3, o4, o5, some (0, 0, a6), o7, some (0, 0, a8), o9, o10] [] σ := fw_on hG [18, 25, 33, 58, 62, 69, 70, 88, 100, 118, 134, 144] 200 h
theorem fs_speakAgainst_69a {G : fw_K} {R : fw_KR} (hG : fw_cls st_speakAgainst R G) {a1 a3 a4 a6 a7 a8 : Int} {o2 o5 o9 o10 : Option ab_AV} {σ : ab_SG} (h : G 70 [some (2, 77, 0), some (0, 0, a1), o2, some (0, 0, a3), some (1, 0, a4), o5, some (0, 0, a6), some (0, 0, a7), some (0, 0, a8), o9, o10] [(0, 0, 0)] σ) : G 69 [some (2, 77, 0), some (0, 0, a1), o2, some (0, 0, a3), some (1, 0, a4), o5, some (0, 0, a6), some (0, 0, a7), some (0, 0, a8), o9, o10] [] σ := fw_on hG [18, 25, 33, 58, 62, 69, 70, 88, 100, 118, 134, 144] 200 h
theorem fs_speakAgainst_58a {G : fw_K} {R : fw_KR} (hG : fw_cls st_speakAgainst R G) {a1 a3 a4 a6 a7 a8 b0 : Int} {o2 o5 o9 o10 : Option ab_AV} {σ : ab_SG} (h : sp_reaches [(1, 0, b0), (0, 0, a3)] σ (fun rv σ2 => G 62 [some (2, 77, 0), some (0, 0, a1), o2, some (0, 0, a3), some (1, 0, a4), o5, some (0, 0, a6), some (0, 0, a7), some (0, 0, a8), o9, o10] (rv.toList ++ []) σ2)) : G 58 [some (2, 77, 0), some (0, 0, a1), o2, some (0, 0, a3), some (1, 0, a4), o5, some (0, 0, a6), some (0, 0, a7), some (0, 0, a8), o9, o10] [(1, 0, b0)] σ := fw_on hG [18, 25, 33, 58, 62, 69, 70, 88, 100, 118, 134, 144] 200 h
theorem fs_speakAgainst_144a {G : fw_K} {R : fw_KR} (hG : fw_cls st_speakAgainst R G) {a8 : Int} {o1 o2 o3 o4 o5 o6 o7 o9 o10 : Option ab_AV} {σ : ab_SG} (h : R none σ) : G 144 [some (2, 77, 0), o1, o2, o3, o4, o5, o6, o7, some (0, 0, a8), o9, o10] [] σ := fw_on hG [18, 25, 33, 58, 62, 69, 70, 88, 100, 118, 134, 144] 200 h
theorem fs_speakAgainst_70a {G : fw_K} {R : fw_KR} (hG : fw_cls st_speakAgainst R G) {a1 a3 a4 a6 a7 a8 b0 : Int} {o2 o5 o9 o10 : Option ab_AV} {σ : ab_SG} (h : (fw_c b0 = 0 → sp_atj [(2, 78, 0), (0, 0, a7)] σ (fun rv σ2 => G 100 [some (2, 77, 0), some (0, 0, a1), o2, some (0, 0, a3), some (1, 0, a4), o5, some (0, 0, a6), some (0, 0, a7), some (0, 0, b0), o9, o10] (rv.toList ++ []) σ2)) ∧ (fw_c b0 ≠ 0 → sp_atj [(2, 79, 0), (0, 0, a7 - 1)] σ (fun rv σ2 => G 88 [some (2, 77, 0), some (0, 0, a1), o2, some (0, 0, a3), some (1, 0, a4), o5, some (0, 0, a6), some (0, 0, a7), some (0, 0, b0), o9, o10] (rv.toList ++ []) σ2))) : G 70 [some (2, 77, 0), some (0, 0, a1), o2, some (0, 0, a3), some (1, 0, a4), o5, some (0, 0, a6), some (0, 0, a7), some (0, 0, a8), o9, o10] [(0, 0, b0)] σ := fw_on hG [18, 25, 33, 58, 62, 69, 70, 88, 100, 118, 134, 144] 200 h
theorem fs_speakAgainst_62a {G : fw_K} {R : fw_KR} (hG : fw_cls st_speakAgainst R G) {a1 a3 a4 a6 a7 a8 b0 : Int} {o2 o5 o9 o10 : Option ab_AV} {σ : ab_SG} (h : (fw_c b0 = 0 → G 69 [some (2, 77, 0), some (0, 0, a1), o2, some (0, 0, a3), some (1, 0, a4), o5, some (0, 0, a6), some (0, 0, a7), some (0, 0, a8), o9, o10] [] σ) ∧ (fw_c b0 ≠ 0 → G 70 [some (2, 77, 0), some (0, 0, a1), o2, some (0, 0, a3), some (1, 0, a4), o5, some (0, 0, a6), some (0, 0, a7), some (0, 0, a8), o9, o10] [(0, 0, 1)] σ)) : G 62 [some (2, 77, 0), some (0, 0, a1), o2, some (0, 0, a3), some (1, 0, a4), o5, some (0, 0, a6), some (0, 0, a7), some (0, 0, a8), o9, o10] [(0, 0, b0)] σ := fw_on hG [18, 25, 33, 58, 62, 69, 70, 88, 100, 118, 134, 144] 200 h
abbrev fk_doAgainst : List fw_CR := [(54, 3, true, 0, 2, sp_speakAgainst)]
abbrev st_doAgainst : fw_K → fw_KR → fw_K := fw_st vwCl nn_sh nn_kd fw_kv fw_wc (nn_KI10.map (fun x => x.1)) (nn_KJ10.map (fun x => x.1)) (nn_PF10.map (fun x => x.1)) (nn_PS10.map (fun x => x.1)) fk_doAgainst 3 nn_dt99 4 4
theorem fs_doAgainst_0 {G : fw_K} {R : fw_KR} (hG : fw_cls st_doAgainst R G) {f d : Int} {σ : ab_SG} (h : G 2 [some (2, 77, 0), some (0, 0, f), some (0, 0, d), some (0, 0, 1)] [] σ) : G 0 [some (2, 77, 0), some (0, 0, f), some (0, 0, d), none] [] σ := fw_on hG [2, 17, 30] 200 h
theorem fs_doAgainst_2 {G : fw_K} {R : fw_KR} (hG : fw_cls st_doAgainst R G) {a1 a2 a3 : Int} {σ : ab_SG} (h : (fw_c 9 < fw_c a3 → sp_speakAgainst [(2, 77, 0), (0, 0, 0), (0, 0, a1), (0, 0, a2)] σ (fun rv σ2 => G 30 [some (2, 77, 0), some (0, 0, a1), some (0, 0, a2), some (0, 0, a3)] (rv.toList ++ []) σ2)) ∧ (fw_c a3 ≤ fw_c 9 → sp_speakAgainst [(2, 77, 0), (0, 0, a3), (0, 0, a3 - 1), (0, 0, a2)] σ (fun rv σ2 => G 17 [some (2, 77, 0), some (0, 0, a1), some (0, 0, a2), some (0, 0, a3)] (rv.toList ++ []) σ2))) : G 2 [some (2, 77, 0), some (0, 0, a1), some (0, 0, a2), some (0, 0, a3)] [] σ := fw_on hG [2, 17, 30] 200 h
theorem fs_doAgainst_30 {G : fw_K} {R : fw_KR} (hG : fw_cls st_doAgainst R G) {a1 a2 a3 : Int} {σ : ab_SG} (h : R none σ) : G 30 [some (2, 77, 0), some (0, 0, a1), some (0, 0, a2), some (0, 0, a3)] [] σ := fw_on hG [2, 17, 30] 200 h
theorem fs_doAgainst_17 {G : fw_K} {R : fw_KR} (hG : fw_cls st_doAgainst R G) {a1 a2 a3 : Int} {σ : ab_SG} (h : G 2 [some (2, 77, 0), some (0, 0, a1), some (0, 0, a2), some (0, 0, a3 + 1)] [] σ) : G 17 [some (2, 77, 0), some (0, 0, a1), some (0, 0, a2), some (0, 0, a3)] [] σ := fw_on hG [2, 17, 30] 200 h
abbrev fk_counter : List fw_CR := [(169, 1, true, 6, 1, sp_setOf3), (180, 2, false, 0, 0, sp_atc), (463, 5, true, 0, 4, sp_hear), (470, 2, true, 0, 3, sp_doAgainst)]
abbrev st_counter : fw_K → fw_KR → fw_K := fw_st vwCl nn_sh nn_kd fw_kv fw_wc (nn_KI1.map (fun x => x.1)) (nn_KJ1.map (fun x => x.1)) (nn_PF1.map (fun x => x.1)) (nn_PS1.map (fun x => x.1)) fk_counter 5 nn_dt98 4 4
theorem fs_counter_0 {G : fw_K} {R : fw_KR} (hG : fw_cls st_counter R G) {p q c : Int} {σ : ab_SG} (h : sp_setOf3 [(2, 3, 0), (0, 0, c)] σ (fun rv σ2 => G 22 [some (2, 0, 0), some (0, 0, p), some (0, 0, q), some (0, 0, c)] (rv.toList ++ [(0, 0, q), (0, 0, p), (2, 73, 0), (2, 3, 0), (2, 77, 0)]) σ2)) : G 0 [some (2, 0, 0), some (0, 0, p), some (0, 0, q), some (0, 0, c)] [] σ := fw_on hG [22, 25, 47, 50] 200 h
theorem fs_counter_22 {G : fw_K} {R : fw_KR} (hG : fw_cls st_counter R G) {a1 a2 a3 b0 b1 b2 : Int} {σ : ab_SG} (h : sp_hear [(2, 77, 0), (2, 3, 0), (2, 73, 0), (0, 0, b2), (0, 0, b1), (0, 0, b0)] σ (fun rv σ2 => G 25 [some (2, 0, 0), some (0, 0, a1), some (0, 0, a2), some (0, 0, a3)] (rv.toList ++ []) σ2)) : G 22 [some (2, 0, 0), some (0, 0, a1), some (0, 0, a2), some (0, 0, a3)] [(0, 0, b0), (0, 0, b1), (0, 0, b2), (2, 73, 0), (2, 3, 0), (2, 77, 0)] σ := fw_on hG [22, 25, 47, 50] 200 h
theorem fs_counter_25 {G : fw_K} {R : fw_KR} (hG : fw_cls st_counter R G) {a1 a2 a3 : Int} {σ : ab_SG} (h : sp_atc [(2, 10, 0), (0, 0, a2)] σ (fun rv σ2 => G 47 [some (2, 0, 0), some (0, 0, a1), some (0, 0, a2), some (0, 0, a3)] (rv.toList ++ [(0, 0, σ 3 14), (2, 77, 0)]) σ2)) : G 25 [some (2, 0, 0), some (0, 0, a1), some (0, 0, a2), some (0, 0, a3)] [] σ := fw_on hG [22, 25, 47, 50] 200 h
theorem fs_counter_47 {G : fw_K} {R : fw_KR} (hG : fw_cls st_counter R G) {a1 a2 a3 b0 b1 : Int} {σ : ab_SG} (h : sp_doAgainst [(2, 77, 0), (0, 0, b1), (0, 0, b0)] σ (fun rv σ2 => G 50 [some (2, 0, 0), some (0, 0, a1), some (0, 0, a2), some (0, 0, a3)] (rv.toList ++ []) σ2)) : G 47 [some (2, 0, 0), some (0, 0, a1), some (0, 0, a2), some (0, 0, a3)] [(0, 0, b0), (0, 0, b1), (2, 77, 0)] σ := fw_on hG [22, 25, 47, 50] 200 h
theorem fs_counter_50 {G : fw_K} {R : fw_KR} (hG : fw_cls st_counter R G) {a1 a2 a3 : Int} {σ : ab_SG} (h : R none σ) : G 50 [some (2, 0, 0), some (0, 0, a1), some (0, 0, a2), some (0, 0, a3)] [] σ := fw_on hG [22, 25, 47, 50] 200 h
abbrev fk_reply : List fw_CR := [(239, 4, true, 10, 2, sp_canBid), (246, 2, true, 0, 1, sp_dmove), (253, 3, true, 10, 5, sp_counter)]
abbrev st_reply : fw_K → fw_KR → fw_K := fw_st vwCl nn_sh nn_kd fw_kv fw_wc (nn_KI1.map (fun x => x.1)) (nn_KJ1.map (fun x => x.1)) (nn_PF1.map (fun x => x.1)) (nn_PS1.map (fun x => x.1)) fk_reply 6 nn_dt97 5 0
theorem fs_reply_0 {G : fw_K} {R : fw_KR} (hG : fw_cls st_reply R G) {p q n c : Int} {σ : ab_SG} (h : sp_canBid [(2, 0, 0), (0, 0, p), (0, 0, q), (0, 0, n), (0, 0, c)] σ (fun rv σ2 => G 9 [some (2, 0, 0), some (0, 0, p), some (0, 0, q), some (0, 0, n), some (0, 0, c)] (rv.toList ++ []) σ2)) : G 0 [some (2, 0, 0), some (0, 0, p), some (0, 0, q), some (0, 0, n), some (0, 0, c)] [] σ := fw_on hG [9, 22, 31] 200 h
theorem fs_reply_9 {G : fw_K} {R : fw_KR} (hG : fw_cls st_reply R G) {a1 a2 a3 a4 b0 : Int} {σ : ab_SG} (h : (fw_c b0 ≠ 0 → sp_counter [(2, 0, 0), (0, 0, a1), (0, 0, a2), (0, 0, a4)] σ (fun rv σ2 => G 22 [some (2, 0, 0), some (0, 0, a1), some (0, 0, a2), some (0, 0, a3), some (0, 0, a4)] (rv.toList ++ []) σ2)) ∧ (fw_c b0 = 0 → R (some (0, 0, (-1))) σ)) : G 9 [some (2, 0, 0), some (0, 0, a1), some (0, 0, a2), some (0, 0, a3), some (0, 0, a4)] [(0, 0, b0)] σ := fw_on hG [9, 22, 31] 200 h
theorem fs_reply_22 {G : fw_K} {R : fw_KR} (hG : fw_cls st_reply R G) {a1 a2 a3 a4 : Int} {σ : ab_SG} (h : sp_dmove [(2, 77, 0), (0, 0, 0), (0, 0, a3)] σ (fun rv σ2 => G 31 [some (2, 0, 0), some (0, 0, a1), some (0, 0, a2), some (0, 0, a3), some (0, 0, a4)] (rv.toList ++ []) σ2)) : G 22 [some (2, 0, 0), some (0, 0, a1), some (0, 0, a2), some (0, 0, a3), some (0, 0, a4)] [] σ := fw_on hG [9, 22, 31] 200 h
theorem fs_reply_31 {G : fw_K} {R : fw_KR} (hG : fw_cls st_reply R G) {a1 a2 a3 a4 b0 : Int} {σ : ab_SG} (h : R (some (0, 0, b0)) σ) : G 31 [some (2, 0, 0), some (0, 0, a1), some (0, 0, a2), some (0, 0, a3), some (0, 0, a4)] [(0, 0, b0)] σ := fw_on hG [9, 22, 31] 200 h

section
variable {l : Launch} {cy : Nat → ClassId} {ad wr cr : Nat → Nat} {D : va_G}
theorem fm_speakAgainst (hinj : nn_inj ad) : fw_H l cy ad wr cr D 100 2 sp_speakAgainst := fw_mk hinj (⟨"NameNotes$Duel", "speakAgainst", "(III)V"⟩, prog_2_method_6_code, 11, (Option.none : Option Jvm.ClassFile.FieldType), 3, true, 4) rfl rfl nn_KI10_ok nn_KJ10_ok nn_PF10_ok nn_PS10_ok (by decide +kernel) rfl rfl (List.forall_mem_cons.mpr ⟨fw_row nn_PM10_ok (x := 35) (k := 2) (mn := 26) (np := 3) (ob := false) (ci := 0) (⟨"NameNotes", "put", "([JIJ)V"⟩, prog_1_method_87_code, 4, (Option.none : Option Jvm.ClassFile.FieldType), 3, false, 4) rfl (by decide +kernel) rfl rfl (by decide) (fun q => by cases q) (fm_put79 hinj), (List.forall_mem_cons.mpr ⟨fw_row nn_PM10_ok (x := 45) (k := 2) (mn := 87) (np := 2) (ob := false) (ci := 0) (⟨"NameNotes", "at", "([JI)J"⟩, prog_1_method_85_code, 2, (Option.some Jvm.ClassFile.FieldType.long), 2, false, 2) rfl (by decide +kernel) rfl rfl (by decide) (fun q => by cases q) (fm_atj hinj), (List.forall_mem_cons.mpr ⟨fw_row nn_PM10_ok (x := 51) (k := 2) (mn := 27) (np := 3) (ob := false) (ci := 0) (⟨"NameNotes", "put", "([III)V"⟩, prog_1_method_86_code, 3, (Option.none : Option Jvm.ClassFile.FieldType), 3, false, 4) rfl (by decide +kernel) rfl rfl (by decide) (fun q => by cases q) (fm_put80 hinj), (List.forall_mem_cons.mpr ⟨fw_row nn_PM10_ok (x := 57) (k := 2) (mn := 89) (np := 2) (ob := false) (ci := 0) (⟨"NameNotes", "reaches", "(JI)Z"⟩, prog_1_method_78_code, 3, (Option.some Jvm.ClassFile.FieldType.boolean), 2, false, 1) rfl (by decide +kernel) rfl rfl (by decide) (fun q => by cases q) (fm_reaches hinj), (fun _ h => absurd h List.not_mem_nil)⟩)⟩)⟩)⟩) (fun as σ K h => by
  obtain ⟨n, m, a, b, d, rfl, ⟨rfl, rfl⟩, ⟨hn, hm⟩, hd, hC, hV, h⟩ := h
  unfold ds_u dr_r dl_st at h
  have c1 : fw_c 1 = 1 := fw_s (by decide) (by decide)
  obtain ⟨F, eF⟩ : ∃ F : Nat → Int, F = dr_g (σ 78) (σ 79) d := ⟨_, rfl⟩
  have hF : ∀ b : Nat, dr_g (σ 78) (σ 79) d b = F b := fun b => by rw [eF]
  have Fb : ∀ b : Nat, 1 ≤ b → b ≤ m → 0 ≤ F b ∧ F b ≤ 976299632280 := fun b h1 h2 => by
    rw [← hF b]
    unfold dr_g
    split
    · exact hV _ (by omega) (by omega)
    · exact hC b (by omega) (by omega)
  rw [← eF] at h
  generalize hR : dr_s F m (if n = 0 then -1 else 976299632280 - σ 78 (10 + n), 0) = R at h
  refine ⟨rfl, fun G hG => ?_⟩
  have loop : ∀ (f b : Nat) (v mv : Int) (o2 o5 o8 o9 o10 : Option ab_AV), b = f → b ≤ m → (-1 ≤ v ∧ v ≤ 976299632280) → (0 ≤ mv ∧ mv ≤ 9) → (o8 = none ∨ ∃ x : Int, o8 = some (0, 0, x)) → dr_s F b (v, mv) = R → G 33 [some (2, 77, 0), some (0, 0, (n : Int)), o2, some (0, 0, d), some (1, 0, v), o5, some (0, 0, mv), some (0, 0, (b : Int)), o8, o9, o10] [] σ := by
    intro f
    induction f with
    | zero =>
      intro b v mv o2 o5 o8 o9 o10 hb hbm hv hmv h8 e
      have cb : fw_c (b : Int) = (b : Int) := oz_c9 b (by omega)
      have cn : fw_c (n : Int) = (n : Int) := oz_c9 n hn
      have e2 : (v, mv) = R := by rw [← e, hb]; rfl
      rw [← e2] at h
      rcases h8 with rfl | ⟨x, rfl⟩
      · refine fs_speakAgainst_33 hG ?_
        rw [cb]
        refine ⟨fun _ => ⟨_, _, rfl, fun _ => ?_, fun z => absurd (by rw [cn]; omega) z⟩, fun z => absurd z (by omega)⟩
        rw [cn, Int.toNat_natCast, fw_d_id (x := v) (by omega) (by omega)]
        refine fs_speakAgainst_134 hG ⟨_, _, rfl, fun _ => ?_, fun z => absurd (by rw [cn]; omega) z⟩
        rw [cn, Int.toNat_natCast, fw_s (x := mv) (by omega) (by omega)]
        exact fs_speakAgainst_144 hG h
      · refine fs_speakAgainst_33a hG ?_
        rw [cb]
        refine ⟨fun _ => ⟨_, _, rfl, fun _ => ?_, fun z => absurd (by rw [cn]; omega) z⟩, fun z => absurd z (by omega)⟩
        rw [cn, Int.toNat_natCast, fw_d_id (x := v) (by omega) (by omega)]
        refine fs_speakAgainst_134a hG ⟨_, _, rfl, fun _ => ?_, fun z => absurd (by rw [cn]; omega) z⟩
        rw [cn, Int.toNat_natCast, fw_s (x := mv) (by omega) (by omega)]
        exact fs_speakAgainst_144a hG h
    | succ f ih =>
      intro b v mv o2 o5 o8 o9 o10 hb hbm hv hmv h8 e
      subst hb
      have cb : fw_c ((f + 1 : Nat) : Int) = ((f + 1 : Nat) : Int) := oz_c9 (f + 1) (by omega)
      have vb := Fb (f + 1) (by omega) hbm
      rw [dr_ss] at e
      -- behind the price of the bid
      have at100 : ∀ (x : Int) (o9 o10 : Option ab_AV), G 100 [some (2, 77, 0), some (0, 0, (n : Int)), o2, some (0, 0, d), some (1, 0, v), o5, some (0, 0, mv), some (0, 0, ((f + 1 : Nat) : Int)), some (0, 0, x), o9, o10] [(1, 0, F (f + 1))] σ := by
        intro x o9 o10
        refine fs_speakAgainst_100 hG ?_
        rw [fw_d_id (x := F (f + 1)) (by omega) (by omega), fw_d_id (x := v) (by omega) (by omega)]
        refine ⟨fun z => fs_speakAgainst_118 hG ?_, fun z => fs_speakAgainst_118 hG ?_⟩
        · rw [if_neg (by omega)] at e
          have g := ih f v mv o2 o5 (some (0, 0, x)) (some (1, 0, F (f + 1))) none rfl (by omega) hv hmv (Or.inr ⟨x, rfl⟩) e
          rw [show ((f : Nat) : Int) = ((f + 1 : Nat) : Int) + (-1) by omega] at g
          exact g
        · rw [if_pos z] at e
          have g := ih f (F (f + 1)) ((f + 1 : Nat) : Int) o2 none (some (0, 0, x)) (some (1, 0, F (f + 1))) none rfl (by omega) (by omega) (by omega) (Or.inr ⟨x, rfl⟩) e
          rw [show ((f : Nat) : Int) = ((f + 1 : Nat) : Int) + (-1) by omega] at g
          exact g
      have hno : ¬ (1 < f + 1 ∧ d * 976299632280 ≤ σ 78 (10 + (f + 1) - 1) * 9) → F (f + 1) = σ 78 (f + 1) := fun z => by rw [← hF]; unfold dr_g; rw [if_neg z]
      have hyes : (1 < f + 1 ∧ d * 976299632280 ≤ σ 78 (10 + (f + 1) - 1) * 9) → F (f + 1) = σ 79 (f + 1 - 1) := fun z => by rw [← hF]; unfold dr_g; rw [if_pos z]
      have ci : fw_c ((10 + ((f + 1 : Nat) : Int)) - 1) = ((10 + (f + 1) - 1 : Nat) : Int) := by
        rw [show (10 + ((f + 1 : Nat) : Int)) - 1 = ((10 + (f + 1) - 1 : Nat) : Int) by omega]
        exact fw_s (by omega) (by omega)
      have cj : fw_c (((f + 1 : Nat) : Int) - 1) = ((f + 1 - 1 : Nat) : Int) := by
        rw [show ((f + 1 : Nat) : Int) - 1 = ((f + 1 - 1 : Nat) : Int) by omega]
        exact fw_s (by omega) (by omega)
      rcases h8 with rfl | ⟨x, rfl⟩
      · have no : F (f + 1) = σ 78 (f + 1) → G 69 [some (2, 77, 0), some (0, 0, (n : Int)), o2, some (0, 0, d), some (1, 0, v), o5, some (0, 0, mv), some (0, 0, ((f + 1 : Nat) : Int)), none, o9, o10] [] σ := fun ef => by
          refine fs_speakAgainst_69 hG (fs_speakAgainst_70 hG ⟨fun _ => ⟨(78, 20), by decide, _, rfl, fun _ => ?_, fun z => absurd (by rw [cb]; show _ ∧ _ < (20 : Int); omega) z⟩, fun z => absurd fw_c0 z⟩)
          rw [cb, Int.toNat_natCast, ← ef]
          exact at100 0 o9 o10
        refine fs_speakAgainst_33 hG ?_
        rw [cb, c1]
        refine ⟨fun z => absurd z (by omega), fun _ => ⟨fun z => no (hno (fun w => by omega)), fun z => ⟨(78, 20), by decide, _, rfl, fun _ => ?_, fun y => absurd (by rw [ci]; show _ ∧ _ < (20 : Int); omega) y⟩⟩⟩
        rw [ci, Int.toNat_natCast]
        have b8 := hC (10 + (f + 1) - 1) (by omega) (by omega)
        refine fs_speakAgainst_58 hG ⟨_, _, rfl, b8, hd, fs_speakAgainst_62 hG ⟨fun y => no (hno (fun w => fw_bo_eq y w.2)), fun y => ?_⟩⟩
        have ef := hyes ⟨by omega, fw_bo_ne y⟩
        refine fs_speakAgainst_70 hG ⟨fun y => absurd y (by rw [c1]; decide), fun _ => ⟨(79, 20), by decide, _, rfl, fun _ => ?_, fun y => absurd (by rw [cj]; show _ ∧ _ < (20 : Int); omega) y⟩⟩
        rw [cj, Int.toNat_natCast, ← ef]
        exact fs_speakAgainst_88 hG (at100 1 o9 o10)
      · have no : F (f + 1) = σ 78 (f + 1) → G 69 [some (2, 77, 0), some (0, 0, (n : Int)), o2, some (0, 0, d), some (1, 0, v), o5, some (0, 0, mv), some (0, 0, ((f + 1 : Nat) : Int)), some (0, 0, x), o9, o10] [] σ := fun ef => by
          refine fs_speakAgainst_69a hG (fs_speakAgainst_70a hG ⟨fun _ => ⟨(78, 20), by decide, _, rfl, fun _ => ?_, fun z => absurd (by rw [cb]; show _ ∧ _ < (20 : Int); omega) z⟩, fun z => absurd fw_c0 z⟩)
          rw [cb, Int.toNat_natCast, ← ef]
          exact at100 0 o9 o10
        refine fs_speakAgainst_33a hG ?_
        rw [cb, c1]
        refine ⟨fun z => absurd z (by omega), fun _ => ⟨fun z => no (hno (fun w => by omega)), fun z => ⟨(78, 20), by decide, _, rfl, fun _ => ?_, fun y => absurd (by rw [ci]; show _ ∧ _ < (20 : Int); omega) y⟩⟩⟩
        rw [ci, Int.toNat_natCast]
        have b8 := hC (10 + (f + 1) - 1) (by omega) (by omega)
        refine fs_speakAgainst_58a hG ⟨_, _, rfl, b8, hd, fs_speakAgainst_62a hG ⟨fun y => no (hno (fun w => fw_bo_eq y w.2)), fun y => ?_⟩⟩
        have ef := hyes ⟨by omega, fw_bo_ne y⟩
        refine fs_speakAgainst_70a hG ⟨fun y => absurd y (by rw [c1]; decide), fun _ => ⟨(79, 20), by decide, _, rfl, fun _ => ?_, fun y => absurd (by rw [cj]; show _ ∧ _ < (20 : Int); omega) y⟩⟩
        rw [cj, Int.toNat_natCast, ← ef]
        exact fs_speakAgainst_88 hG (at100 1 o9 o10)
  have cn10 : fw_c (10 + (n : Int)) = ((10 + n : Nat) : Int) := by
    rw [show 10 + (n : Int) = ((10 + n : Nat) : Int) by omega]
    exact fw_s (by omega) (by omega)
  refine fs_speakAgainst_0 hG ?_
  rw [oz_c9 n hn]
  refine ⟨fun z => fs_speakAgainst_25 hG ?_, fun z => ⟨(78, 20), by decide, _, rfl, fun _ => ?_, fun y => absurd (by rw [cn10]; show _ ∧ _ < (20 : Int); omega) y⟩⟩
  · rw [if_pos (show n = 0 by omega)] at hR
    exact loop m m (-1) 0 _ _ _ _ _ rfl (Nat.le_refl m) (by decide) (by decide) (Or.inl rfl) hR
  · rw [cn10, Int.toNat_natCast]
    rw [if_neg (show ¬ n = 0 by omega)] at hR
    have b := hC (10 + n) (by omega) (by omega)
    exact fs_speakAgainst_18 hG (fs_speakAgainst_25 hG (loop m m (976299632280 - σ 78 (10 + n)) 0 _ _ _ _ _ rfl (Nat.le_refl m) (by omega) (by decide) (Or.inl rfl) hR)))
theorem fm_doAgainst (hinj : nn_inj ad) : fw_H l cy ad wr cr D 99 3 sp_doAgainst := fw_mk hinj (⟨"NameNotes$Duel", "doAgainst", "(II)V"⟩, prog_2_method_5_code, 4, (Option.none : Option Jvm.ClassFile.FieldType), 2, true, 4) rfl rfl nn_KI10_ok nn_KJ10_ok nn_PF10_ok nn_PS10_ok (by decide +kernel) rfl rfl (List.forall_mem_cons.mpr ⟨fw_row nn_PM10_ok (x := 54) (k := 0) (mn := 100) (np := 3) (ob := true) (ci := 0) (⟨"NameNotes$Duel", "speakAgainst", "(III)V"⟩, prog_2_method_6_code, 11, (Option.none : Option Jvm.ClassFile.FieldType), 3, true, 4) rfl (by decide +kernel) rfl rfl (by decide) (fun _ => ⟨_, _, rfl⟩) (fm_speakAgainst hinj), (fun _ h => absurd h List.not_mem_nil)⟩) (fun as σ K h => by
  obtain ⟨f, d, rfl, hf, hd, hC, h⟩ := h
  have c9 : fw_c 9 = 9 := fw_s (by decide) (by decide)
  refine ⟨rfl, fun G hG => fs_doAgainst_0 hG ?_⟩
  have loop : ∀ (g k : Nat) (τ : ab_SG), k + g = 9 → ab_okM du_B σ τ → du_A (fun i => 1 ≤ i ∧ i ≤ k) τ (dr_n (σ 78) d f k) → G 2 [some (2, 77, 0), some (0, 0, (f : Int)), some (0, 0, d), some (0, 0, ((k + 1 : Nat) : Int))] [] τ := by
    intro g
    induction g with
    | zero =>
      intro k τ hk M I
      have ek : k = 9 := by omega
      subst ek
      have B := dr_nb (kd := d) hC hf 9
      have e78 := du_B78 M
      have A1 := ds_uA (kd := d) (n := 0) (m := f) (C := σ 78) (by omega) (by decide) I e78 (fun b h1 h2 => ⟨h1, by omega⟩)
      refine fs_doAgainst_2 hG ?_
      rw [c9, fw_s (x := ((9 + 1 : Nat) : Int)) (by decide) (by decide)]
      refine ⟨fun _ => ⟨0, f, _, _, _, rfl, ⟨rfl, rfl⟩, ⟨by decide, by omega⟩, hd, by rw [e78]; exact hC, fun b h1 h2 => by rw [(I b ⟨h1, by omega⟩).1]; exact (B b).1, fs_doAgainst_30 hG (h _ (ds_uM M d 0 f) (fun i hi => ?_))⟩, fun z => absurd z (by decide)⟩
      have g := A1 i (by show (_ ∧ _) ∨ _; omega)
      rw [show (10 : Nat) = 9 + 1 from rfl, dr_nt]
      exact g
    | succ g ih =>
      intro k τ hk M I
      have B := dr_nb (kd := d) hC hf k
      have e78 := du_B78 M
      have A1 := ds_uA (kd := d) (n := k + 1) (m := k) (C := σ 78) (by omega) (by omega) I e78 (fun b h1 h2 => ⟨h1, by omega⟩)
      refine fs_doAgainst_2 hG ?_
      rw [c9, oz_c9 (k + 1) (by omega)]
      refine ⟨fun z => absurd z (by omega), fun _ => ⟨k + 1, k, _, _, _, rfl, ⟨rfl, by omega⟩, ⟨by omega, by omega⟩, hd, by rw [e78]; exact hC, fun b h1 h2 => by rw [(I b ⟨h1, by omega⟩).1]; exact (B b).1, fs_doAgainst_17 hG ?_⟩⟩
      have w := ih (k + 1) _ (by omega) (ds_uM M d (k + 1) k) (fun i hi => by
        rw [dr_nn _ _ _ (by omega)]
        exact A1 i (by have := hi.1; have := hi.2; show (_ ∧ _) ∨ _; omega))
      rw [show ((k + 1 + 1 : Nat) : Int) = ((k + 1 : Nat) : Int) + 1 from rfl] at w
      exact w
  exact loop 9 0 σ rfl (fw_okM_refl _ _) (fun i hi => absurd hi.1 (by have := hi.2; omega)))
theorem fm_counter (hinj : nn_inj ad) : fw_H l cy ad wr cr D 98 5 sp_counter := fw_mk hinj (⟨"NameNotes", "counter", "(III)V"⟩, prog_1_method_67_code, 4, (Option.none : Option Jvm.ClassFile.FieldType), 3, true, 4) rfl rfl nn_KI1_ok nn_KJ1_ok nn_PF1_ok nn_PS1_ok (by decide +kernel) rfl rfl (List.forall_mem_cons.mpr ⟨fw_row nn_PM1_ok (x := 169) (k := 0) (mn := 64) (np := 1) (ob := true) (ci := 6) (⟨"NameNotes$Studio", "setOf", "(I)I"⟩, prog_8_method_8_code, 2, (Option.some Jvm.ClassFile.FieldType.int), 1, true, 0) rfl (by decide +kernel) rfl rfl (by decide) (fun _ => ⟨_, _, rfl⟩) (fm_setOf3 hinj), (List.forall_mem_cons.mpr ⟨fw_row nn_PM1_ok (x := 180) (k := 0) (mn := 29) (np := 2) (ob := false) (ci := 0) (⟨"NameNotes", "at", "([II)I"⟩, prog_1_method_84_code, 2, (Option.some Jvm.ClassFile.FieldType.int), 2, false, 0) rfl (by decide +kernel) rfl rfl (by decide) (fun q => by cases q) (fm_atc hinj), (List.forall_mem_cons.mpr ⟨fw_row nn_PM1_ok (x := 463) (k := 0) (mn := 93) (np := 5) (ob := true) (ci := 0) (⟨"NameNotes$Duel", "hear", "(LNameNotes$Studio;LNameNotes$Ear;III)V"⟩, prog_2_method_2_code, 7, (Option.none : Option Jvm.ClassFile.FieldType), 5, true, 4) rfl (by decide +kernel) rfl rfl (by decide) (fun _ => ⟨_, _, rfl⟩) (fm_hear hinj), (List.forall_mem_cons.mpr ⟨fw_row nn_PM1_ok (x := 470) (k := 0) (mn := 99) (np := 2) (ob := true) (ci := 0) (⟨"NameNotes$Duel", "doAgainst", "(II)V"⟩, prog_2_method_5_code, 4, (Option.none : Option Jvm.ClassFile.FieldType), 2, true, 4) rfl (by decide +kernel) rfl rfl (by decide) (fun _ => ⟨_, _, rfl⟩) (fm_doAgainst hinj), (fun _ h => absurd h List.not_mem_nil)⟩)⟩)⟩)⟩) (fun as σ K h => by
  obtain ⟨A, p, q, c, rfl, hN, hb, h⟩ := h
  have nn := N_n hN.1
  obtain ⟨h1, h2, h3, h4, h5⟩ := hb
  obtain ⟨p, rfl⟩ := Int.eq_ofNat_of_zero_le h1.1
  obtain ⟨q, rfl⟩ := Int.eq_ofNat_of_zero_le h2.1
  have fb := hN.2.1.2.2.2.2
  have db := hN.2.1.2.2.2.1 q (by omega)
  obtain ⟨f, ef⟩ := Int.eq_ofNat_of_zero_le (show 0 ≤ A 49 14 by omega)
  have cl := oz_clue hN.1 hN.2.1 h5.1 h5.2
  unfold v_dr at h
  rw [ef] at h fb
  rw [Int.toNat_natCast, Int.toNat_natCast, Int.toNat_natCast] at h
  refine ⟨rfl, fun G hG => fs_counter_0 hG ⟨A, c, rfl, hN, by omega, fs_counter_22 hG ⟨A, p, q, v_set A c, rfl, hN, by omega, by omega, cl.1, cl.2, fun σ1 M1 I1 => fs_counter_25 hG ⟨(10, 5), by decide, _, rfl, fun _ => ?_, fun z => absurd (by rw [oz_c9 q (by omega)]; show _ ∧ _ < (5 : Int); omega) z⟩⟩⟩⟩
  have N1 := oz_NCM M1 (by decide +kernel) hN
  have cb := v_chb hN (show p < 5 by omega) (show q < 5 by omega) cl.1
  have e14 : σ1 3 14 = A 49 14 := N1.2.2.2.2.2.1
  have e10 : σ1 10 q = A 56 q := N1.2.2.2.2.2.2.2.2.2.1 q (by omega)
  rw [oz_c9 q (by omega), Int.toNat_natCast, e14, ef, e10]
  refine fs_counter_47 hG ⟨f, A 56 q, rfl, by omega, db, fun i hi hm => by rw [I1 i hi hm]; exact cb i hi hm, fun σ2 M2 I2 => fs_counter_50 hG (h σ2 (on_trans (od_up M1 (by decide)) (od_up M2 (by decide))) (fun i hi => ?_))⟩
  rw [← dr_nc (by omega) I1 10]
  exact I2 i hi)
theorem fm_reply (hinj : nn_inj ad) : fw_H l cy ad wr cr D 97 6 sp_reply := fw_mk hinj (⟨"NameNotes", "reply", "(IIII)I"⟩, prog_1_method_20_code, 5, (Option.some Jvm.ClassFile.FieldType.int), 4, true, 0) rfl rfl nn_KI1_ok nn_KJ1_ok nn_PF1_ok nn_PS1_ok (by decide +kernel) rfl rfl (List.forall_mem_cons.mpr ⟨fw_row nn_PM1_ok (x := 239) (k := 0) (mn := 91) (np := 4) (ob := true) (ci := 10) (⟨"NameNotes", "canBid", "(IIII)Z"⟩, prog_1_method_62_code, 5, (Option.some Jvm.ClassFile.FieldType.boolean), 4, true, 1) rfl (by decide +kernel) rfl rfl (by decide) (fun _ => ⟨_, _, rfl⟩) (fm_canBid hinj), (List.forall_mem_cons.mpr ⟨fw_row nn_PM1_ok (x := 246) (k := 0) (mn := 96) (np := 2) (ob := true) (ci := 0) (⟨"NameNotes$Duel", "move", "(II)I"⟩, prog_2_method_8_code, 3, (Option.some Jvm.ClassFile.FieldType.int), 2, true, 0) rfl (by decide +kernel) rfl rfl (by decide) (fun _ => ⟨_, _, rfl⟩) (fm_dmove hinj), (List.forall_mem_cons.mpr ⟨fw_row nn_PM1_ok (x := 253) (k := 0) (mn := 98) (np := 3) (ob := true) (ci := 10) (⟨"NameNotes", "counter", "(III)V"⟩, prog_1_method_67_code, 4, (Option.none : Option Jvm.ClassFile.FieldType), 3, true, 4) rfl (by decide +kernel) rfl rfl (by decide) (fun _ => ⟨_, _, rfl⟩) (fm_counter hinj), (fun _ h => absurd h List.not_mem_nil)⟩)⟩)⟩) (fun as σ K h => by
  obtain ⟨A, p, q, n, c, rfl, ee, hN, h⟩ := h
  refine ⟨rfl, fun G hG => fs_reply_0 hG ⟨A, p, q, n, c, rfl, ee, hN, fs_reply_9 hG ⟨fun z => ?_, fun z => ?_⟩⟩⟩
  · have hb := fw_bo_ne z
    refine ⟨A, p, q, c, rfl, hN, ⟨hb.1, hb.2.1, hb.2.2.1, by decide, hb.2.2.2.2⟩, fun σ1 M1 I1 => fs_reply_22 hG ⟨0, n.toNat, _, _, rfl, ⟨rfl, by have := hb.2.2.2.1; omega⟩, ⟨by decide, by have := hb.2.2.2.1; omega⟩, fs_reply_31 hG ?_⟩⟩
    rw [show 10 * 0 + n.toNat = n.toNat by omega, (I1 n.toNat (by have := hb.2.2.2.1; omega)).2]
    have k := h σ1 M1
    unfold v_reply at k
    rw [if_pos hb] at k
    exact k
  · have k := h σ (fw_okM_refl _ _)
    unfold v_reply at k
    rw [if_neg (fw_bo_eq z)] at k
    exact k)
end
